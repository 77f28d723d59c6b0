/** Promises 54 to 56: keep, restore, count. */
public final class KeptTest {
    private static final Due DUE = new Due();

    public static void main(String[] args) {
        keepAndRestore();
        six();
        count();
        DUE.end();
    }

    private static void keepAndRestore() {
        EightParts x = new EightParts();
        DUE.is("restore()", x.restore(), -1);
        for (int slot = 0; slot < 8; slot++) {
            x.one(slot, slot);
        }
        x.order(3);
        DUE.is("keep()", x.keep(), 1);
        for (int slot = 0; slot < 8; slot++) {
            Due.lay(x, slot, 5, 5, 5, 5, 5, 5, 5, 5);
        }
        x.order(6);
        DUE.is("keep()", x.keep(), 2);
        x.put(0, 0, 7);
        x.order(0);
        DUE.is("restore()", x.restore(), 1);
        DUE.is("count(0)", x.count(0), 6);
        DUE.parts("as kept last", x, 0, 5, 5, 5, 5, 5, 5, 5, 5);
        DUE.is("restore()", x.restore(), 0);
        DUE.is("count(0)", x.count(0), 3);
        for (int slot = 0; slot < 8; slot++) {
            DUE.is("as kept first", x.part(slot, slot), 2);
            DUE.is("as kept first", x.norm(slot), 4);
        }
        DUE.is("restore()", x.restore(), -1);
        DUE.is("count(0)", x.count(0), 3);
    }

    private static void six() {
        EightParts x = new EightParts();
        for (int n = 1; n <= 6; n++) {
            x.put(0, 0, n);
            x.order(n);
            DUE.is("keep()", x.keep(), n);
        }
        x.put(0, 0, 7);
        DUE.is("a seventh", x.keep(), -1);
        DUE.is("count(3)", x.count(3), 6);
        for (int n = 6; n >= 1; n--) {
            DUE.is("restore()", x.restore(), n - 1);
            DUE.is("part(0, 0)", x.part(0, 0), n);
            DUE.is("count(0)", x.count(0), n);
        }
        DUE.is("keep()", x.keep(), 1);
        x.put(0, 0, 9);
        DUE.is("restore()", x.restore(), 0);
        DUE.is("what was kept anew", x.part(0, 0), 1);
    }

    private static void count() {
        EightParts x = new EightParts();
        DUE.is("count(1)", x.count(1), 240);
        Due.lay(x, 0, 1);
        Due.lay(x, 1, 1, 1, 1, 1);
        Due.lay(x, 7, 0, 0, 0, 0, 0, 0, 0, -2);
        DUE.is("count(2)", x.count(2), 254);
        DUE.is("count(4)", x.count(4), 255 - 1 - 2 - 128);
        x.order(5);
        DUE.is("count(0)", x.count(0), 5);
        DUE.is("count(2)", x.count(2), 252);
        x.order(0);
        DUE.is("count(1)", x.count(1), 16);
        DUE.is("count(3)", x.count(3), 0);
        DUE.is("count(5)", x.count(5), -1);
        DUE.is("count(-1)", x.count(-1), -1);
        DUE.is("count(MAX)", x.count(Integer.MAX_VALUE), -1);
    }
}
