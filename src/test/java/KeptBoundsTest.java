/** The bounds of promises 54 to 56: six are kept at most, none is restored where none is, what is counted. */
public final class KeptBoundsTest {
    private static final int NONE = EightParts.NONE;
    private static final Due DUE = new Due();
    private static final Stage UNITS = Stage.units(DUE);

    public static void main(String[] args) {
        keepTheSixthAndTheSeventh();
        keepRefusedLeavesAll();
        restoreOfNone();
        restoreOfAll();
        restoreForgetsTheLast();
        countOfEach();
        countOfSlots();
        countRefused();
        DUE.end();
    }

    private static void keepTheSixthAndTheSeventh() {
        EightParts x = new EightParts();
        for (int n = 1; n <= 6; n++) {
            DUE.is("keep() " + n, x.keep(), n);
            DUE.is("count(3)", x.count(3), n);
        }
        for (int n = 0; n < 3; n++) {
            DUE.is("a seventh", x.keep(), NONE);
            DUE.is("count(3)", x.count(3), 6);
        }
        DUE.is("restore()", x.restore(), 5);
        DUE.is("the sixth again", x.keep(), 6);
        DUE.is("the seventh again", x.keep(), NONE);
    }

    /** Each of six is another one, and the seventh call neither changes these nor what is held. */
    private static void keepRefusedLeavesAll() {
        EightParts x = new EightParts();
        for (int n = 1; n <= 6; n++) {
            x.put(n, n, 100 * n);
            x.order(n);
            x.keep();
        }
        x.put(7, 7, 700);
        x.order(7);
        DUE.is("a seventh", x.keep(), NONE);
        DUE.is("the order that holds", x.count(0), 7);
        DUE.is("the part that is held", x.part(7, 7), 700);
        for (int n = 6; n >= 1; n--) {
            DUE.is("restore()", x.restore(), n - 1);
            DUE.is("its order", x.count(0), n);
            for (int slot = 1; slot < 8; slot++) {
                DUE.is("slot " + slot, x.part(slot, slot), slot <= n ? 100 * slot : 0);
            }
        }
        DUE.is("no more", x.restore(), NONE);
    }

    private static void restoreOfNone() {
        EightParts x = new EightParts();
        Due.lay(x, 5, 1, 2, 3, 4, 5, 6, 7, 8);
        x.order(4);
        Due.feed(x, "f");
        DUE.is("restore()", x.restore(), NONE);
        DUE.parts("nothing happens", x, 5, 1, 2, 3, 4, 5, 6, 7, 8);
        DUE.is("nothing happens", x.count(0), 4);
        DUE.is("nothing happens", x.back(0), 1);
        DUE.is("keep()", x.keep(), 1);
        DUE.is("restore()", x.restore(), 0);
        DUE.is("restore() again", x.restore(), NONE);
        DUE.is("count(3)", x.count(3), 0);
    }

    private static void restoreOfAll() {
        int[] low = {-20000, 20000, -19999, 19999, -1, 1, 0, -2};
        for (int order = 0; order < 8; order++) {
            EightParts x = new EightParts();
            for (int slot = 0; slot < 8; slot++) {
                Due.lay(x, slot, low);
                x.put(slot, 6, slot);
            }
            x.order(order);
            x.keep();
            for (int slot = 0; slot < 8; slot++) {
                x.one(slot, slot);
            }
            x.order(7 - order);
            DUE.is("restore()", x.restore(), 0);
            DUE.is("count(0)", x.count(0), order);
            for (int slot = 0; slot < 8; slot++) {
                DUE.parts("restore()", x, slot, -20000, 20000, -19999, 19999, -1, 1, slot, -2);
            }
        }
    }

    private static void restoreForgetsTheLast() {
        EightParts x = new EightParts();
        x.put(0, 0, 1);
        x.keep();
        x.put(0, 0, 2);
        x.keep();
        DUE.is("restore()", x.restore(), 1);
        DUE.is("as kept last", x.part(0, 0), 2);
        DUE.is("restore()", x.restore(), 0);
        DUE.is("as kept ahead of it", x.part(0, 0), 1);
        x.put(0, 0, 3);
        DUE.is("keep()", x.keep(), 1);
        x.put(0, 0, 4);
        DUE.is("restore()", x.restore(), 0);
        DUE.is("what was kept anew", x.part(0, 0), 3);
    }

    private static void countOfEach() {
        UNITS.leaves("the ORDER", 1, x -> x.count(0));
        UNITS.leaves("UNITS", 240, x -> x.count(1));
        UNITS.leaves("SLOTS that are WHOLE", 255, x -> x.count(2));
        UNITS.leaves("how many are kept", 1, x -> x.count(3));
        UNITS.leaves("SLOTS that hold 0", 0, x -> x.count(4));
        for (int order = 0; order < 8; order++) {
            Stage held = Stage.units(DUE).order(order);
            held.leaves("the ORDER", order, x -> x.count(0));
            held.leaves("UNITS in order " + order, order > 0 ? 240 : 16, x -> x.count(1));
        }
    }

    private static void countOfSlots() {
        for (int slot = 0; slot < 8; slot++) {
            Stage half = Stage.units(DUE).lay(slot, 0, 0, 0, 0, 0, 0, 0, 1);
            half.leaves("WHOLE but for slot " + slot, 255 - (1 << slot), x -> x.count(2));
            half.leaves("none is 0", 0, x -> x.count(4));
            Stage zero = Stage.units(DUE).lay(slot);
            zero.leaves("0 in slot " + slot, 1 << slot, x -> x.count(4));
            zero.leaves("0 is WHOLE", 255, x -> x.count(2));
        }
        DUE.is("all at first", new EightParts().count(2), 255);
        DUE.is("all at first", new EightParts().count(4), 255);
    }

    private static void countRefused() {
        UNITS.ranges("count's what", 0, 4, NONE, EightParts::count);
    }
}
