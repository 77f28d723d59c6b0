/** Promises 1 to 6: a new object, put, one, listed, copy, order. */
public final class LaidTest {
    private static final Due DUE = new Due();

    public static void main(String[] args) {
        aNewObject();
        besideAnother();
        put();
        one();
        listed();
        copy();
        order();
        DUE.end();
    }

    private static void aNewObject() {
        EightParts x = new EightParts();
        for (int slot = 0; slot < 8; slot++) {
            DUE.parts("new", x, slot, 0, 0, 0, 0, 0, 0, 0, 0);
        }
        DUE.is("count(0)", x.count(0), 1);
        DUE.is("count(3)", x.count(3), 0);
        DUE.is("back(0)", x.back(0), 0);
        DUE.is("NONE", EightParts.NONE, -1);
    }

    private static void besideAnother() {
        EightParts x = new EightParts();
        EightParts other = new EightParts();
        other.one(0, 3);
        other.order(0);
        other.keep();
        Due.feed(other, "a+1");
        DUE.is("units beside another object", x.count(1), 240);
        DUE.is("units of the other one", other.count(1), 16);
        DUE.is("many(2) beside another object", x.many(2), 2160);
        DUE.is("many(2) of the other one", other.many(2), 112);
        DUE.is("table beside another object", x.table(0, 0), 239);
        DUE.is("table of the other one", other.table(0, 0), 15);
        DUE.parts("beside another object", x, 0);
        DUE.is("order beside another object", x.count(0), 1);
        DUE.is("kept beside another object", x.count(3), 0);
        DUE.is("the tape beside another object", x.back(0), 0);
        DUE.is("the tape of the other one", other.work(1), 1);
        DUE.parts("the other one", other, 1, 2, 0, 0, 2);
    }

    private static void put() {
        EightParts x = new EightParts();
        DUE.is("put(7, 7, 20000)", x.put(7, 7, 20000), true);
        DUE.is("put(0, 0, -20000)", x.put(0, 0, -20000), true);
        DUE.is("put(7, 7, 20001)", x.put(7, 7, 20001), false);
        DUE.is("put(0, 0, -20001)", x.put(0, 0, -20001), false);
        DUE.is("put(0, 0, MIN)", x.put(0, 0, Integer.MIN_VALUE), false);
        DUE.is("put(-1, 0, 1)", x.put(-1, 0, 1), false);
        DUE.is("put(8, 0, 1)", x.put(8, 0, 1), false);
        DUE.is("put(0, -1, 1)", x.put(0, -1, 1), false);
        DUE.is("put(0, 8, 1)", x.put(0, 8, 1), false);
        DUE.parts("put", x, 7, 0, 0, 0, 0, 0, 0, 0, 20000);
        DUE.parts("put", x, 0, -20000, 0, 0, 0, 0, 0, 0, 0);
    }

    private static void one() {
        EightParts x = new EightParts();
        Due.lay(x, 3, 9, 9, 9, 9, 9, 9, 9, 9);
        DUE.is("one(3, 7)", x.one(3, 7), true);
        DUE.parts("one(3, 7)", x, 3, 0, 0, 0, 0, 0, 0, 0, 2);
        DUE.is("one(3, 8)", x.one(3, 8), false);
        DUE.is("one(3, -1)", x.one(3, -1), false);
        DUE.is("one(-1, 0)", x.one(-1, 0), false);
        DUE.is("one(8, 0)", x.one(8, 0), false);
        DUE.parts("one(3, 8)", x, 3, 0, 0, 0, 0, 0, 0, 0, 2);
    }

    private static void listed() {
        EightParts x = new EightParts();
        DUE.is("listed(0, 1, 0)", x.listed(0, 1, 0), true);
        DUE.parts("listed(0, 1, 0)", x, 0, -2, 0, 0, 0, 0, 0, 0, 0);
        // Behind -1 comes what has -1/2 ahead: order 1 lets {0, 1, 2, 3} be odd.
        DUE.is("listed(0, 1, 1)", x.listed(0, 1, 1), true);
        DUE.parts("listed(0, 1, 1)", x, 0, -1, -1, -1, -1, 0, 0, 0, 0);
        DUE.is("listed(0, 3, 6719)", x.listed(0, 3, 6719), true);
        DUE.is("norm(0)", x.norm(0), 12);
        DUE.parts("listed(0, 3, 6719)", x, 0, 3, 1, 1, 1, 0, 0, 0, 0);
        DUE.is("listed(0, 3, 6720)", x.listed(0, 3, 6720), false);
        DUE.is("listed(0, 1, -1)", x.listed(0, 1, -1), false);
        DUE.is("listed(0, -1, 0)", x.listed(0, -1, 0), false);
        DUE.is("listed(0, 4, 0)", x.listed(0, 4, 0), false);
        DUE.is("listed(-1, 1, 0)", x.listed(-1, 1, 0), false);
        DUE.parts("listed wrongly", x, 0, 3, 1, 1, 1, 0, 0, 0, 0);
        DUE.is("listed(0, 0, 0)", x.listed(0, 0, 0), true);
        DUE.parts("listed(0, 0, 0)", x, 0, 0, 0, 0, 0, 0, 0, 0, 0);
        x.order(0);
        DUE.is("listed(1, 2, 0)", x.listed(1, 2, 0), true);
        DUE.parts("listed(1, 2, 0)", x, 1, -2, -2, 0, 0, 0, 0, 0, 0);
        DUE.is("listed(1, 1, 16)", x.listed(1, 1, 16), false);
    }

    private static void copy() {
        EightParts x = new EightParts();
        Due.lay(x, 2, 1, 2, 3, 4, 5, 6, 7, 8);
        DUE.is("copy(5, 2)", x.copy(5, 2), true);
        DUE.parts("copy(5, 2)", x, 5, 1, 2, 3, 4, 5, 6, 7, 8);
        x.put(2, 0, 99);
        DUE.is("part(5, 0)", x.part(5, 0), 1);
        DUE.is("copy(5, 5)", x.copy(5, 5), true);
        DUE.is("copy(5, 8)", x.copy(5, 8), false);
        DUE.is("copy(-1, 5)", x.copy(-1, 5), false);
        DUE.is("copy(8, 5)", x.copy(8, 5), false);
        DUE.is("copy(5, -1)", x.copy(5, -1), false);
        DUE.parts("copy wrongly", x, 5, 1, 2, 3, 4, 5, 6, 7, 8);
    }

    private static void order() {
        EightParts x = new EightParts();
        DUE.is("order(7)", x.order(7), 1);
        DUE.is("order(0)", x.order(0), 7);
        DUE.is("order(-1)", x.order(-1), -1);
        DUE.is("order(8)", x.order(8), -1);
        DUE.is("count(0)", x.count(0), 0);
        DUE.is("order(0)", x.order(0), 0);
    }
}
