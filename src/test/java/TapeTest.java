/** Promises 21 to 23: feed, back, work; and the texts of the terms. */
public final class TapeTest {
    private static final Due DUE = new Due();

    public static void main(String[] args) {
        feedAndBack();
        work();
        faults();
        depth();
        ints();
        cannotBe();
        tapeStaysOrGoes();
        DUE.end();
    }

    private static void feedAndBack() {
        EightParts x = new EightParts();
        for (int k = 1; k <= 10; k++) {
            DUE.is("feed " + k, x.feed(0, 0, 0, 0, 0), 20 * k);
        }
        DUE.is("an eleventh feed", x.feed(0, 0, 0, 0, 0), -1);
        DUE.is("back(0)", x.back(0), 200);
        DUE.is("back(19)", x.back(19), 181);
        DUE.is("feed at 181", x.feed(0, 0, 0, 0, 0), -1);
        DUE.is("back(1)", x.back(1), 180);
        DUE.is("feed at 180", x.feed(0, 0, 0, 0, 0), 200);
        DUE.is("back(201)", x.back(201), -1);
        DUE.is("back(-1)", x.back(-1), -1);
        DUE.is("back(MIN)", x.back(Integer.MIN_VALUE), -1);
        DUE.is("back(200)", x.back(200), 0);
        DUE.is("back(1)", x.back(1), -1);
        // The highest byte of a comes first: "1+2*" "3-4+" "5*6-" "7+8+" "9*1 "
        DUE.is("feed", x.feed(0x312B322A, 0x332D342B, 0x352A362D, 0x372B382B, 0x392A3120), 20);
        DUE.is("work(0)", x.work(0), 1);
        DUE.parts("1+6-4+30-7+8+9", x, 0, 86, 0, 0, 0, 0, 0, 0, 0);
    }

    private static void told(EightParts x, String text, int want) {
        Due.feed(x, text);
        DUE.is("work of '" + text + "'", x.work(7), want);
        DUE.is("the tape is empty behind '" + text + "'", x.back(0), 0);
    }

    private static void work() {
        EightParts x = new EightParts();
        x.one(0, 1);
        x.one(1, 2);
        x.one(2, 4);
        told(x, "a*b*c", 1);
        DUE.parts("(a b) c", x, 7, 0, 0, 0, 0, 0, 0, 0, 2);
        told(x, " a * ( b*c ) ", 1);
        DUE.parts("a (b c)", x, 7, 0, 0, 0, 0, 0, 0, 0, -2);
        told(x, "~a*b", 1);
        DUE.parts("a' b", x, 7, 0, 0, 0, -2, 0, 0, 0, 0);
        told(x, "~(a*b)-~ ~ c", 1);
        DUE.parts("(a b)' less c", x, 7, 0, 0, 0, -2, -2, 0, 0, 0);
        told(x, "a-b-c+5", 1);
        DUE.parts("from the left on", x, 7, 10, 2, -2, 0, -2, 0, 0, 0);
        told(x, "a-(b-c)", 1);
        DUE.parts("in brackets", x, 7, 0, 2, -2, 0, 2, 0, 0, 0);
        told(x, "2+3*4", 1);
        DUE.is("2+3*4", x.part(7, 0), 28);
        told(x, "h", 1);
        DUE.is("h is slot 7", x.part(7, 0), 28);
    }

    private static void faults() {
        EightParts x = new EightParts();
        told(x, "", -4);
        told(x, "   ", -7);
        told(x, "a+", -6);
        told(x, "a+ ", -7);
        told(x, "a *", -7);
        told(x, "~", -5);
        told(x, "(", -5);
        told(x, "(a", -6);
        told(x, "(a ", -7);
        told(x, "()", -5);
        told(x, "a)", -5);
        told(x, ")", -4);
        told(x, "a b", -6);
        told(x, "a(b)", -5);
        told(x, "2a", -5);
        told(x, "1 2", -6);
        told(x, "+a", -4);
        told(x, "-a", -4);
        told(x, "a+-b", -6);
        told(x, "a**b", -6);
        told(x, "a~b", -5);
        told(x, "i", -4);
        told(x, "A", -4);
        told(x, "`", -4);
        told(x, "/", -4);
        told(x, ":", -4);
        told(x, "\t", -4);
        told(x, "a\u0000", -5);
        told(x, "a\u00ff", -5);
        told(x, "\u00e1", -4);
        told(x, "(a+b)*(c-d", -14);
        told(x, "((a)+b))", -11);
    }

    private static void depth() {
        EightParts x = new EightParts();
        x.one(0, 1);
        told(x, "~~~~~~~~~~~~a", 1);
        DUE.is("twelve mirrors", x.part(7, 1), 2);
        told(x, "~~~~~~~~~~~~~a", -16);
        told(x, "((((((((((((a))))))))))))", 1);
        told(x, "(((((((((((((a)))))))))))))", -16);
        told(x, "~(~(~(~(~(~(a))))))", 1);
        told(x, "~(~(~(~(~(~(~a))))))", -16);
        told(x, "~(~(~(~(~(~( (a) ))))))", -17);
        // What stands beside one another is not within one another.
        told(x, "~a*~a*~a*~a*~a*~a*~a*~a*~a*~a*~a*~a*~a*~a", 1);
        told(x, "(a)+(a)+(a)+(a)+(a)+(a)+(a)+(a)+(a)+(a)+(a)+(a)+(a)+(a)", 1);
        DUE.is("fourteen", x.part(7, 1), 28);
        // Six closed, then one and five more make twelve; the sixth of these, byte 28, is the thirteenth.
        told(x, "((((((((((((a+a))))))*~((((((a)))))))))))", -32);
    }

    private static void ints() {
        EightParts x = new EightParts();
        told(x, "999", 1);
        DUE.parts("999", x, 7, 1998, 0, 0, 0, 0, 0, 0, 0);
        told(x, "1000", -4);
        told(x, "0", 1);
        DUE.is("norm(7)", x.norm(7), 0);
        told(x, "000000000000000000000999", 1);
        DUE.is("part(7, 0)", x.part(7, 0), 1998);
        told(x, "00001000", -4);
        told(x, "a+ 99999999999999999999999999999", -7);
        told(x, "a+1000+", -6);
        StringBuilder longest = new StringBuilder();
        for (int k = 0; k < 199; k++) {
            longest.append('0');
        }
        told(x, longest + "7", 1);
        DUE.is("two hundred digits", x.part(7, 0), 14);
        told(x, longest + "+", -204);
        longest.setCharAt(0, '4');
        told(x, longest + "0", -4);
    }

    private static void cannotBe() {
        EightParts x = new EightParts();
        x.one(7, 3);
        told(x, "999*999", -2);
        told(x, "999*999-999*999", -2);
        told(x, "999*10+11", -2);
        told(x, "999*10+10", 1);
        DUE.is("10000", x.part(7, 0), 20000);
        // A sum on the way is beyond, though what comes of it is not.
        told(x, "h+1-1", -2);
        told(x, "h-1+1", 1);
        told(x, "0-h-1+1", -2);
        DUE.is("nothing happens", x.part(7, 0), 20000);
        // A fault is told ahead of what cannot be.
        told(x, "999*999+", -12);
        told(x, "h+h i", -8);
        Due.lay(x, 0, 1);
        told(x, "a*a", -2);
        told(x, "a*2*a*2", 1);
        DUE.is("a*2*a*2", x.part(7, 0), 2);
        told(x, "a*a*4", -2);
        told(x, "a*(a*4)", 1);
        DUE.is("a*(a*4)", x.part(7, 0), 2);
    }

    private static void tapeStaysOrGoes() {
        EightParts x = new EightParts();
        Due.feed(x, "3+4");
        DUE.is("work(8)", x.work(8), -1);
        DUE.is("work(-1)", x.work(-1), -1);
        DUE.is("back(0)", x.back(0), 3);
        DUE.is("keep()", x.keep(), 1);
        DUE.is("restore()", x.restore(), 0);
        DUE.is("the tape is not kept", x.back(0), 3);
        DUE.is("work(2)", x.work(2), 1);
        DUE.is("part(2, 0)", x.part(2, 0), 14);
        DUE.is("work(2)", x.work(2), -4);
    }
}
