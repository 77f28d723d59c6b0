/** The bounds of promises 1 to 6: each sentence that names one, at its last allowed value and beyond it. */
public final class LaidBoundsTest {
    private static final Due DUE = new Due();
    private static final Stage UNITS = Stage.units(DUE);

    public static void main(String[] args) {
        nothingIsHeldAtFirst();
        putAtBothEnds();
        putRefused();
        putChangesOnePartAlone();
        oneOfEachSlotAndPart();
        oneRefused();
        listedFirstAndLast();
        listedRefused();
        listedRefusedInOrder0();
        copyOfEachSlot();
        copyRefused();
        orderTellsWhichHeld();
        orderRefused();
        DUE.end();
    }

    private static void nothingIsHeldAtFirst() {
        EightParts x = new EightParts();
        for (int slot = 0; slot < 8; slot++) {
            DUE.parts("at first", x, slot, 0);
        }
        DUE.is("ORDER 1", x.count(0), 1);
        DUE.is("nothing is kept", x.restore(), EightParts.NONE);
        DUE.is("the tape is empty", x.back(1), EightParts.NONE);
        DUE.is("the tape is empty", x.work(0), -4);
    }

    private static void putAtBothEnds() {
        UNITS.lays("put(3, 3, 20000)", x -> Stage.bit(x.put(3, 3, 20000)), 3, 0, 0, 0, 20000);
        UNITS.lays("put(3, 3, -20000)", x -> Stage.bit(x.put(3, 3, -20000)), 3, 0, 0, 0, -20000);
        UNITS.lays("put(3, 3, 19999)", x -> Stage.bit(x.put(3, 3, 19999)), 3, 0, 0, 0, 19999);
        UNITS.lays("put(0, 0, 0)", x -> Stage.bit(x.put(0, 0, 0)), 0);
        UNITS.lays("put(7, 7, -1)", x -> Stage.bit(x.put(7, 7, -1)), 7, 0, 0, 0, 0, 0, 0, 0, -1);
    }

    private static void putRefused() {
        UNITS.eighth("put's slot", 0, (x, v) -> Stage.bit(x.put(v, 3, 5)));
        UNITS.eighth("put's part", 0, (x, v) -> Stage.bit(x.put(3, v, 5)));
        UNITS.ranges("put's number", -20000, 20000, 0, (x, v) -> Stage.bit(x.put(3, 3, v)));
    }

    private static void putChangesOnePartAlone() {
        Stage full = Stage.units(DUE).lay(5, 1, 2, 3, 4, 5, 6, 7, 8);
        full.lays("put(5, 0, -9)", x -> Stage.bit(x.put(5, 0, -9)), 5, -9, 2, 3, 4, 5, 6, 7, 8);
        full.lays("put(5, 7, -9)", x -> Stage.bit(x.put(5, 7, -9)), 5, 1, 2, 3, 4, 5, 6, 7, -9);
    }

    private static void oneOfEachSlotAndPart() {
        Stage full = Stage.units(DUE).lay(0, 9, 9, 9, 9, 9, 9, 9, 9).lay(7, 9, 9, 9, 9, 9, 9, 9, 9);
        full.lays("one(0, 0)", x -> Stage.bit(x.one(0, 0)), 0, 2);
        full.lays("one(7, 7)", x -> Stage.bit(x.one(7, 7)), 7, 0, 0, 0, 0, 0, 0, 0, 2);
    }

    private static void oneRefused() {
        UNITS.eighth("one's slot", 0, (x, v) -> Stage.bit(x.one(v, 1)));
        UNITS.eighth("one's i", 0, (x, v) -> Stage.bit(x.one(1, v)));
    }

    private static void listedFirstAndLast() {
        UNITS.lays("the one of norm 0", x -> Stage.bit(x.listed(7, 0, 0)), 7);
        UNITS.lays("the first unit", x -> Stage.bit(x.listed(0, 1, 0)), 0, -2);
        UNITS.lays("the last unit", x -> Stage.bit(x.listed(7, 1, 239)), 7, 2);
        UNITS.lays("the first of norm 2", x -> Stage.bit(x.listed(7, 2, 0)), 7, -2, -2);
        UNITS.lays("the last of norm 2", x -> Stage.bit(x.listed(7, 2, 2159)), 7, 2, 2);
        UNITS.lays("the first of norm 3", x -> Stage.bit(x.listed(7, 3, 0)), 7, -3, -1, -1, -1);
        UNITS.lays("the last of norm 3", x -> Stage.bit(x.listed(7, 3, 6719)), 7, 3, 1, 1, 1);
        Stage plain = Stage.units(DUE).order(0);
        plain.lays("the last unit of order 0", x -> Stage.bit(x.listed(7, 1, 15)), 7, 2);
        plain.lays("the last of norm 2 of order 0", x -> Stage.bit(x.listed(7, 2, 111)), 7, 2, 2);
        plain.lays("the first of norm 3 of order 0", x -> Stage.bit(x.listed(7, 3, 0)), 7, -2, -2, -2);
        plain.lays("the last of norm 3 of order 0", x -> Stage.bit(x.listed(7, 3, 447)), 7, 2, 2, 2);
    }

    private static void listedRefused() {
        UNITS.eighth("listed's slot", 0, (x, v) -> Stage.bit(x.listed(v, 1, 0)));
        UNITS.ranges("listed's norm", 0, 3, 0, (x, v) -> Stage.bit(x.listed(3, v, 0)));
        UNITS.ranges("listed's k of norm 0", 0, 0, 0, (x, v) -> Stage.bit(x.listed(3, 0, v)));
        UNITS.ranges("listed's k of norm 1", 0, 239, 0, (x, v) -> Stage.bit(x.listed(3, 1, v)));
        UNITS.ranges("listed's k of norm 2", 0, 2159, 0, (x, v) -> Stage.bit(x.listed(3, 2, v)));
        UNITS.ranges("listed's k of norm 3", 0, 6719, 0, (x, v) -> Stage.bit(x.listed(3, 3, v)));
    }

    private static void listedRefusedInOrder0() {
        Stage plain = Stage.units(DUE).order(0);
        plain.ranges("listed's k of norm 0", 0, 0, 0, (x, v) -> Stage.bit(x.listed(3, 0, v)));
        plain.ranges("listed's k of norm 1", 0, 15, 0, (x, v) -> Stage.bit(x.listed(3, 1, v)));
        plain.ranges("listed's k of norm 2", 0, 111, 0, (x, v) -> Stage.bit(x.listed(3, 2, v)));
        plain.ranges("listed's k of norm 3", 0, 447, 0, (x, v) -> Stage.bit(x.listed(3, 3, v)));
    }

    private static void copyOfEachSlot() {
        UNITS.lays("copy(0, 7)", x -> Stage.bit(x.copy(0, 7)), 0, 0, 0, 0, 0, 0, 0, 0, 2);
        UNITS.lays("copy(7, 0)", x -> Stage.bit(x.copy(7, 0)), 7, 2);
        UNITS.leaves("copy(4, 4)", 1, x -> Stage.bit(x.copy(4, 4)));
    }

    private static void copyRefused() {
        UNITS.eighth("copy's to", 0, (x, v) -> Stage.bit(x.copy(v, 3)));
        UNITS.eighth("copy's from", 0, (x, v) -> Stage.bit(x.copy(3, v)));
        UNITS.leaves("copy(8, 8)", 0, x -> Stage.bit(x.copy(8, 8)));
    }

    private static void orderTellsWhichHeld() {
        for (int order = 0; order < 8; order++) {
            int before = order;
            Stage held = Stage.units(DUE).order(order);
            held.leaves("the order that holds", before, x -> x.order(before));
            held.answers("the least order", before, x -> x.order(0));
            held.answers("the greatest order", before, x -> x.order(7));
            held.answers("the greatest order holds then", 7, x -> x.order(7) < 0 ? -9 : x.count(0));
        }
    }

    private static void orderRefused() {
        UNITS.eighth("order", EightParts.NONE, EightParts::order);
    }
}
