/** The bounds of promises 21 to 23 and of TEXTS: 200 bytes, 12 of ~ and ( , INTS, FAULTS, what CANNOT BE. */
public final class TapeBoundsTest {
    private static final int NONE = EightParts.NONE;
    private static final int TAPE_NOT_EMPTY = -999;
    private static final Due DUE = new Due();
    private static final Stage UNITS = Stage.units(DUE);

    public static void main(String[] args) {
        feedUpToTwoHundred();
        feedBeyondTwoHundred();
        feedTakesEachByte();
        backFromNoneToAll();
        backRefused();
        backTakesTheLast();
        workRefused();
        tapeIsEmptyBehindWork();
        textOfTwoHundred();
        textWithoutAnything();
        textThatEndsTooEarly();
        bytesThatCannotStandFirst();
        bytesThatCannotStandBehind();
        letters();
        ints();
        intsAbove();
        blanksInInts();
        twelveWithinOneAnother();
        thirteenWithinOneAnother();
        sumsAtTheEnds();
        productsAtTheEnds();
        quarters();
        faultAheadOfCannotBe();
        DUE.end();
    }

    /** Works a text in place of the stage's own, and lays that on the tape again. */
    private static Stage.Call work(String text) {
        return x -> {
            x.back(x.back(0));
            Due.feed(x, text);
            long told = x.work(7);
            if (x.back(0) != 0) {
                return TAPE_NOT_EMPTY;
            }
            Due.feed(x, "3+4");
            return told;
        };
    }

    private static void fault(String text, int at) {
        UNITS.leaves("'" + text + "'", -4 - at, work(text));
    }

    private static void whole(String text, int doubled) {
        UNITS.lays("'" + text + "'", work(text), 7, doubled);
    }

    private static EightParts fed(int twenties) {
        EightParts x = new EightParts();
        for (int k = 0; k < twenties; k++) {
            x.feed(0x20202020, 0x20202020, 0x20202020, 0x20202020, 0x20202020);
        }
        return x;
    }

    private static void feedUpToTwoHundred() {
        EightParts x = new EightParts();
        for (int k = 1; k <= 10; k++) {
            DUE.is("feed " + k, x.feed(1, 2, 3, 4, 5), 20 * k);
        }
        EightParts y = fed(9);
        DUE.is("back(0) at 180", y.back(0), 180);
        DUE.is("from 180 to 200", y.feed(0, 0, 0, 0, 0), 200);
        EightParts z = fed(10);
        DUE.is("back(21) from 200", z.back(21), 179);
        DUE.is("from 179 to 199", z.feed(0, 0, 0, 0, 0), 199);
    }

    private static void feedBeyondTwoHundred() {
        for (int over = 1; over <= 20; over++) {
            EightParts x = fed(10);
            x.back(20 - over);
            DUE.is("feed beyond by " + over, x.feed(0x61616161, 0, 0, 0, 0), NONE);
            DUE.is("nothing comes", x.back(0), 180 + over);
            DUE.is("blanks alone", x.work(0), -4 - 180 - over);
        }
    }

    /** Each byte in its place: the one that can't stand there is told by its place. */
    private static void feedTakesEachByte() {
        for (int at = 0; at < 20; at++) {
            int[] words = {0x20202020, 0x20202020, 0x20202020, 0x20202020, 0x20202020};
            words[at / 4] ^= (0x20 ^ 0xE1) << 24 - 8 * (at % 4);
            EightParts x = new EightParts();
            DUE.is("feed", x.feed(words[0], words[1], words[2], words[3], words[4]), 20);
            DUE.is("byte 225 at " + at, x.work(0), -4 - at);
        }
        EightParts x = new EightParts();
        x.feed(Integer.MIN_VALUE, Integer.MAX_VALUE, -1, 0, 1);
        DUE.is("byte 128", x.work(0), -4);
    }

    private static void backFromNoneToAll() {
        EightParts x = new EightParts();
        DUE.is("back(0) of none", x.back(0), 0);
        DUE.is("back(1) of none", x.back(1), NONE);
        EightParts y = fed(1);
        DUE.is("back(0) of 20", y.back(0), 20);
        DUE.is("back(1) of 20", y.back(1), 19);
        DUE.is("back(20) of 19", y.back(20), NONE);
        DUE.is("nothing goes", y.back(0), 19);
        DUE.is("back(19) of 19", y.back(19), 0);
        DUE.is("back(200) of 200", fed(10).back(200), 0);
        DUE.is("back(201) of 200", fed(10).back(201), NONE);
    }

    private static void backRefused() {
        UNITS.refuses("back", NONE, EightParts::back, -1, 4);
        UNITS.leaves("back(0)", 3, x -> x.back(0));
    }

    private static void backTakesTheLast() {
        EightParts x = new EightParts();
        Due.feed(x, "1+2+40");
        DUE.is("back(1)", x.back(1), 5);
        DUE.is("work(0)", x.work(0), 1);
        DUE.is("1+2+4", x.part(0, 0), 14);
    }

    private static void workRefused() {
        UNITS.refuses("work", NONE, EightParts::work, -1, 8);
        for (int slot = 0; slot < 8; slot += 7) {
            int to = slot;
            EightParts x = new EightParts();
            Due.feed(x, "5");
            DUE.is("work(" + to + ")", x.work(to), 1);
            DUE.parts("work(" + to + ")", x, to, 10);
        }
        EightParts x = new EightParts();
        DUE.is("NONE ahead of a FAULT", x.work(8), NONE);
        Due.feed(x, "999*999");
        DUE.is("NONE ahead of -2", x.work(-1), NONE);
        DUE.is("the tape stays", x.back(0), 7);
        DUE.is("-2", x.work(0), -2);
    }

    private static void tapeIsEmptyBehindWork() {
        String[] texts = {"a", "a*", "999*999", ""};
        int[] due = {1, -6, -2, -4};
        for (int k = 0; k < texts.length; k++) {
            EightParts x = new EightParts();
            Due.feed(x, texts[k]);
            DUE.is("work of '" + texts[k] + "'", x.work(0), due[k]);
            DUE.is("how many then", x.back(0), 0);
            DUE.is("nothing is left", x.work(0), -4);
        }
    }

    private static void textOfTwoHundred() {
        whole(" ".repeat(199) + "5", 10);
        whole("5" + " ".repeat(199), 10);
        whole("0".repeat(197) + "999", 1998);
        fault("0".repeat(196) + "1000", 0);
        fault(" ".repeat(200), 200);
        fault(" ".repeat(199) + "+", 199);
        fault("5" + " ".repeat(198) + "+", 200);
        fault("5" + " ".repeat(198) + "5", 199);
        whole("0" + "+1".repeat(99) + " ", 198);
        fault("1" + "*1".repeat(99) + "*", 200);
    }

    private static void textWithoutAnything() {
        fault("", 0);
        fault(" ", 1);
        fault(" ".repeat(20), 20);
    }

    private static void textThatEndsTooEarly() {
        String[] texts = {"1+", "1-", "1*", "~", "(", "(1", "(1+", "((1)", "~(", "(~", "1+(2*~3", "1 + ", "( 1 "};
        for (String text : texts) {
            fault(text, text.length());
        }
    }

    private static void bytesThatCannotStandFirst() {
        for (char sign = 0; sign < 256; sign++) {
            boolean can = sign >= '0' && sign <= '9' || sign >= 'a' && sign <= 'h';
            boolean opens = sign == '~' || sign == '(' || sign == ' ';
            if (!can) {
                fault("" + sign, opens ? 1 : 0);
                fault("1+" + sign, opens ? 3 : 2);
                fault(" ~" + sign, opens ? 3 : 2);
            }
        }
    }

    private static void bytesThatCannotStandBehind() {
        for (char sign = 0; sign < 256; sign++) {
            boolean joins = sign == '+' || sign == '-' || sign == '*';
            if (sign != ' ') {
                fault("a" + sign, joins ? 2 : 1);
                fault("(a)" + sign, joins ? 4 : 3);
                fault("~a " + sign, joins ? 4 : 3);
            }
            if (sign != ' ' && sign != ')') {
                fault("(a" + sign, joins ? 3 : 2);
            }
        }
    }

    private static void letters() {
        int[] row = new int[8];
        for (int slot = 0; slot < 7; slot++) {
            row[slot] = 2;
            UNITS.lays("slot " + slot, work("" + (char) ('a' + slot)), 7, row);
            row[slot] = 0;
        }
        UNITS.leaves("slot 7", 1, work("h"));
        fault("i", 0);
        fault("`", 0);
        fault("A", 0);
    }

    private static void ints() {
        whole("0", 0);
        whole("1", 2);
        whole("998", 1996);
        whole("999", 1998);
        whole("00", 0);
        whole("0999", 1998);
        whole("~999", 1998);
        whole("0-999", -1998);
    }

    private static void intsAbove() {
        fault("1000", 0);
        fault("1000 ", 0);
        fault("01000", 0);
        fault("  1000", 2);
        fault("9990", 0);
        fault("1+1000", 2);
        fault("~(1000", 2);
        fault("1000x", 0);
        fault("4294967297", 0);
        fault("18446744073709551617", 0);
        fault("999+9999+x", 4);
    }

    private static void blanksInInts() {
        fault("9 9", 2);
        fault("1  000", 3);
        fault("0 1000", 2);
        whole(" 9 + 9 ", 36);
        whole(" ( 9 ) * ~ 9 - 1 ", 160);
        fault("9\t+9", 1);
        fault("9\n", 1);
        fault("\u00a09", 0);
    }

    private static void twelveWithinOneAnother() {
        for (int mirrors = 0; mirrors <= 12; mirrors++) {
            String signs = "~".repeat(mirrors);
            int brackets = 12 - mirrors;
            whole(signs + "(".repeat(brackets) + "5" + ")".repeat(brackets), 10);
            whole("(".repeat(brackets) + signs + "5" + ")".repeat(brackets), 10);
        }
        whole("1+" + "~".repeat(12) + "2*" + "~".repeat(12) + "3", 14);
        whole("(" + "~".repeat(11) + "2*(" + "~".repeat(10) + "3))", 12);
        whole("((((((((((((1))))))*((((((2))))))))))))", 4);
        UNITS.lays("twelve mirrors", work("~".repeat(12) + "b"), 7, 0, 2);
        UNITS.lays("eleven mirrors", work("~".repeat(11) + "b"), 7, 0, -2);
    }

    private static void thirteenWithinOneAnother() {
        for (int mirrors = 0; mirrors <= 12; mirrors++) {
            String signs = "~".repeat(mirrors) + "(".repeat(12 - mirrors);
            fault(signs + "~5", 12);
            fault(signs + "(5", 12);
            fault(" " + signs + " (", 14);
            // Behind mirrors alone the thirteenth is the first again, and the text ends too early.
            fault(signs + "5*~", mirrors == 12 ? 15 : 14);
            fault(signs + "5+(", mirrors == 12 ? 15 : 14);
        }
        fault("((((((((((((1))))))*(((((((2", 26);
        fault("(1)*" + "(".repeat(13), 16);
        fault("~1*" + "~".repeat(13), 15);
    }

    private static void sumsAtTheEnds() {
        Stage held = Stage.units(DUE).lay(0, 20000).lay(1, 1).lay(2, -20000).lay(3, 19999).lay(4, -1);
        held.lays("d+b", work("d+b"), 7, 20000);
        held.leaves("a+b", -2, work("a+b"));
        held.lays("e-d", work("e-d"), 7, -20000);
        held.leaves("c-b", -2, work("c-b"));
        held.leaves("a SUM on the way", -2, work("a+b-b"));
        held.lays("in another order", work("a-b+b"), 7, 20000);
        held.leaves("a SUM on the way, in brackets", -2, work("(a+b)-b"));
        held.lays("brackets of another kind", work("a+(b-b)"), 7, 20000);
        held.leaves("a SUM on the way below", -2, work("c+e+b"));
        held.leaves("in a mirror", -2, work("~(a+a)-a"));
        held.leaves("times 0", -2, work("(a+b)*0"));
    }

    private static void productsAtTheEnds() {
        Stage held = Stage.units(DUE).lay(0, 200).lay(1, 202).lay(2, 6).lay(3, 6667).lay(4, 1);
        held.lays("a*a", work("a*a"), 7, 20000);
        held.leaves("a*b", -2, work("a*b"));
        held.leaves("c*d", -2, work("c*d"));
        held.leaves("a PRODUCT on the way", -2, work("a*a*2*e"));
        held.lays("1/2 ahead", work("a*a*e*2"), 7, 20000);
        held.leaves("a PRODUCT on the way less itself", -2, work("a*b-a*b"));
        held.lays("999*10+10", work("999*10+10"), 7, 20000);
        held.leaves("999*10+11", -2, work("999*10+11"));
        held.leaves("0-999*10-11", -2, work("0-999*10-11"));
    }

    private static void quarters() {
        Stage held = Stage.units(DUE).lay(0, 1).lay(1, 1, 1, 1, 1);
        held.leaves("1/2 1/2", -2, work("a*a"));
        held.leaves("four quarters", -2, work("a*a*4"));
        held.lays("2 halves by a half", work("a*2*a*2"), 7, 2);
        held.lays("1/2 and 1/2", work("a+a"), 7, 2);
        held.leaves("a quarter times 0", -2, work("a*a*0"));
        held.lays("a product of halves without quarters", work("b*~b"), 7, 2);
    }

    private static void faultAheadOfCannotBe() {
        fault("999*999*", 8);
        fault("999*999)", 7);
        fault("999*999+1000", 8);
        fault("(999*999", 8);
        fault("999*999" + "+" + "~".repeat(13), 20);
        UNITS.leaves("without one", -2, work("999*999"));
    }
}
