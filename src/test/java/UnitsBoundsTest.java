/** The bounds of promises 43 to 50: cycles of 1 to 60, slots by bits, the first and last units, what is no UNIT. */
public final class UnitsBoundsTest {
    private static final int NONE = EightParts.NONE;
    private static final int[] SIXTH = {1, 1, 1, 1};
    private static final int[] THIRD = {-1, 1, 1, 1};
    private static final int[] NOT_WHOLE = {1, 1, 1, 0, 1};
    private static final Due DUE = new Due();
    private static final Stage UNITS = Stage.units(DUE);

    public static void main(String[] args) {
        cycleOfEachLength();
        cycleWithoutEnd();
        cycleRefused();
        madeOfOneAndOfAll();
        madeOfNoUnit();
        madeOfNoUnitBeside();
        madeRefused();
        madeAtTheEnds();
        madeAtRefused();
        tableAtTheEnds();
        tableRefused();
        turnCycleOfEachLength();
        turnCycleWithoutEnd();
        turnCycleRefused();
        sharedAtTheEnds();
        cyclesAtTheEnds();
        nucleusIfTheyCanBe();
        nucleusRefused();
        DUE.end();
    }

    private static void cycleOfEachLength() {
        Stage held = Stage.units(DUE).lay(0, 2).lay(1, -2).lay(2, THIRD).lay(3, 0, 0, 0, 0, 0, 0, 0, -2).lay(4, SIXTH)
            .lay(5, NOT_WHOLE);
        int[] due = {1, 2, 3, 4, 6, 6};
        for (int slot = 0; slot < due.length; slot++) {
            int of = slot;
            held.leaves("cycle of slot " + slot, due[slot], x -> x.cycle(of));
        }
    }

    private static void cycleWithoutEnd() {
        Stage held = Stage.units(DUE).lay(0).lay(1, 1).lay(2, 4).lay(3, 20000, -20000).lay(4, 2, 2).lay(5, 1, 1);
        held.leaves("0 sixty times", -2, x -> x.cycle(0));
        held.leaves("1/2 has quarters", -2, x -> x.cycle(1));
        held.leaves("2 comes beyond", -2, x -> x.cycle(2));
        held.leaves("a great one", -2, x -> x.cycle(3));
        held.leaves("norm 2", -2, x -> x.cycle(4));
        held.leaves("a norm of 1/2", -2, x -> x.cycle(5));
    }

    private static void cycleRefused() {
        UNITS.eighth("cycle's slot", NONE, (x, v) -> x.cycle(v));
        Stage.units(DUE).lay(0).leaves("NONE ahead of -2", NONE, x -> x.cycle(8));
    }

    private static void made(Stage held, String call, int bits, int... due) {
        for (int what = 0; what < due.length; what++) {
            int of = what;
            held.leaves("made of " + call + ", what " + what, due[what], x -> x.made(bits, of));
        }
    }

    private static void madeOfOneAndOfAll() {
        made(UNITS, "1", 1, 1, 1, 1, 1, 1);
        made(UNITS, "E(7)", 128, 4, 1, 1, 4, 2);
        made(UNITS, "E(1) and E(2)", 6, 8, 1, 0, 2, 2);
        made(UNITS, "E(1), E(2), E(4)", 22, 16, 0, 0, 2, 2);
        made(UNITS, "all", 255, 16, 0, 0, 2, 2);
        made(Stage.units(DUE).lay(0, -2), "-1", 1, 2, 1, 1, 2, 2);
        made(Stage.units(DUE).lay(0, THIRD), "a third root", 1, 3, 1, 1, 3, 1);
        made(Stage.units(DUE).lay(0, THIRD).lay(3, 1, 1, 0, 0, 1, 1), "all units", 255, 240, 0, 0, 2, 2);
        made(Stage.units(DUE).order(0), "all of order 0", 255, 16, 0, 0, 2, 2);
    }

    private static void madeOfNoUnit() {
        Stage held = Stage.units(DUE).lay(0).lay(1, 1).lay(2, 2, 2).lay(3, NOT_WHOLE).lay(4, 4).lay(5, 1, 1)
            .lay(6, Rows.all(20000)).lay(7, 1, 1, 1, 1, 1, 1, 1, 1);
        for (int slot = 0; slot < 8; slot++) {
            made(held, "no unit in slot " + slot, 1 << slot, -2, -2, -2, -2, -2);
            int bits = 1 << slot;
            held.leaves("madeAt of no unit", -2, x -> x.madeAt(bits, 0));
            held.leaves("NONE ahead of -2: what", NONE, x -> x.made(bits, 5));
            held.leaves("NONE ahead of -2: k", NONE, x -> x.madeAt(bits, -1));
        }
        made(Stage.units(DUE).order(0).lay(0, SIXTH), "a sixth root in order 0", 1, -2, -2, -2, -2, -2);
        made(Stage.units(DUE).order(7).lay(0, NOT_WHOLE), "what is WHOLE in order 7", 1, 6, 1, 1, 6, 2);
    }

    private static void madeOfNoUnitBeside() {
        for (int slot = 0; slot < 8; slot++) {
            int bits = 1 << slot;
            Stage held = Stage.units(DUE).lay(slot, 2, 2);
            held.leaves("all, with slot " + slot, -2, x -> x.made(255, 0));
            held.leaves("all, with slot " + slot, -2, x -> x.madeAt(255, 0));
            held.leaves("all but slot " + slot, 16, x -> x.made(255 - bits, 0));
            held.leaves("all but slot " + slot, 0, x -> x.madeAt(255 - bits, 0));
        }
    }

    private static void madeRefused() {
        UNITS.ranges("made's slots", 1, 255, NONE, (x, v) -> x.made(v, 0));
        UNITS.ranges("made's what", 0, 4, NONE, (x, v) -> x.made(2, v));
        UNITS.ranges("madeAt's slots", 1, 255, NONE, (x, v) -> x.madeAt(v, 0));
    }

    private static void madeAtTheEnds() {
        UNITS.leaves("1 alone", 239, x -> x.madeAt(1, 0));
        UNITS.leaves("the first of E(1)", 0, x -> x.madeAt(2, 0));
        UNITS.leaves("the last of E(1)", 239, x -> x.madeAt(2, 3));
        Stage all = Stage.units(DUE).lay(0, THIRD).lay(3, 1, 1, 0, 0, 1, 1);
        for (int k = 0; k < 240; k += k == 0 || k == 238 ? 1 : 79) {
            int at = k;
            all.leaves("all units", at, x -> x.madeAt(255, at));
        }
        Stage.units(DUE).order(0).leaves("the last of order 0", 15, x -> x.madeAt(255, 15));
    }

    private static void madeAtRefused() {
        UNITS.ranges("madeAt's k of 1", 0, 0, NONE, (x, v) -> x.madeAt(1, v));
        UNITS.ranges("madeAt's k of E(1)", 0, 3, NONE, (x, v) -> x.madeAt(2, v));
        UNITS.ranges("madeAt's k of all E", 0, 15, NONE, (x, v) -> x.madeAt(255, v));
        Stage all = Stage.units(DUE).lay(0, THIRD).lay(3, 1, 1, 0, 0, 1, 1);
        all.ranges("madeAt's k of all", 0, 239, NONE, (x, v) -> x.madeAt(255, v));
    }

    private static void tableAtTheEnds() {
        for (int order = 0; order < 8; order++) {
            int end = order > 0 ? 239 : 15;
            Stage held = Stage.units(DUE).order(order);
            held.leaves("-1 by -1", end, x -> x.table(0, 0));
            held.leaves("-1 by 1", 0, x -> x.table(0, end));
            held.leaves("1 by -1", 0, x -> x.table(end, 0));
            held.leaves("1 by 1", end, x -> x.table(end, end));
            for (int k = 1; k < end; k += 7) {
                int of = k;
                held.leaves("1 by another", of, x -> x.table(end, of));
                held.leaves("another by -1", end - of, x -> x.table(of, 0));
            }
        }
    }

    private static void tableRefused() {
        for (int order = 0; order < 8; order++) {
            int end = order > 0 ? 239 : 15;
            Stage held = Stage.units(DUE).order(order);
            held.ranges("table's i", 0, end, NONE, (x, v) -> x.table(v, 1));
            held.ranges("table's k", 0, end, NONE, (x, v) -> x.table(1, v));
            held.leaves("both beyond", NONE, x -> x.table(end + 1, end + 1));
        }
    }

    private static void turnCycleOfEachLength() {
        Stage held = Stage.units(DUE).lay(0, 2).lay(3, SIXTH).lay(4, THIRD).lay(5, -2).lay(6).lay(7, 4);
        int[][] due = {{1, 2, 4, 6, 3}, {1, 2, 4, 6, 3}};
        int[] by = {0, 5, 1, 3, 4};
        for (int how = 0; how < 2; how++) {
            for (int k = 0; k < by.length; k++) {
                int turn = how;
                int u = by[k];
                held.leaves("turn " + how + " by slot " + u, due[how][k], x -> x.turnCycle(2, u, turn));
            }
        }
        held.leaves("(E(1) E(2)) E(1) is E(2)", 1, x -> x.turnCycle(2, 1, 2));
        held.leaves("(E(1) 1) E(1) is -1", 2, x -> x.turnCycle(0, 1, 2));
        held.leaves("(E(1) E(2)) E(1)' is -E(2)", 2, x -> x.turnCycle(2, 1, 3));
        held.leaves("(u E(2)) u' of a sixth root", 3, x -> x.turnCycle(2, 3, 3));
        held.leaves("(u 1) u of a sixth root", 3, x -> x.turnCycle(0, 3, 2));
        for (int how = 0; how < 4; how++) {
            int turn = how;
            held.leaves("0 by 2", 1, x -> x.turnCycle(6, 7, turn));
            held.leaves("0 by 0", 1, x -> x.turnCycle(6, 6, turn));
        }
    }

    private static void turnCycleWithoutEnd() {
        Stage held = Stage.units(DUE).lay(0).lay(3, 1).lay(4, 4).lay(5, 20000).lay(6, SIXTH);
        for (int how = 0; how < 4; how++) {
            int turn = how;
            held.leaves("by 0", -2, x -> x.turnCycle(2, 0, turn));
            held.leaves("by 2", -2, x -> x.turnCycle(2, 4, turn));
            held.leaves("by 10000", -2, x -> x.turnCycle(5, 5, turn));
            held.leaves("1/2 by 1/2", -2, x -> x.turnCycle(3, 3, turn));
        }
        held.leaves("quarters on the way", -2, x -> x.turnCycle(3, 6, 3));
    }

    private static void turnCycleRefused() {
        UNITS.eighth("turnCycle's x", NONE, (x, v) -> x.turnCycle(v, 1, 0));
        UNITS.eighth("turnCycle's u", NONE, (x, v) -> x.turnCycle(1, v, 1));
        UNITS.ranges("turnCycle's how", 0, 3, NONE, (x, v) -> x.turnCycle(1, 2, v));
        Stage held = Stage.units(DUE).lay(0);
        held.leaves("NONE ahead of -2: how", NONE, x -> x.turnCycle(1, 0, 4));
        held.leaves("NONE ahead of -2: x", NONE, x -> x.turnCycle(8, 0, 0));
    }

    private static void sharedAtTheEnds() {
        UNITS.leaves("order 0 with itself", 16, x -> x.shared(0, 0));
        UNITS.leaves("order 7 with itself", 240, x -> x.shared(7, 7));
        UNITS.leaves("orders 0 and 7", 16, x -> x.shared(0, 7));
        UNITS.leaves("orders 7 and 0", 16, x -> x.shared(7, 0));
        UNITS.leaves("orders 1 and 7", 48, x -> x.shared(1, 7));
        UNITS.eighth("shared's order", NONE, (x, v) -> x.shared(v, 0));
        UNITS.eighth("shared's other", NONE, (x, v) -> x.shared(0, v));
    }

    private static void cyclesAtTheEnds() {
        UNITS.leaves("a cycle of 1", 1, x -> x.cycles(1));
        UNITS.leaves("a cycle of 6", 56, x -> x.cycles(6));
        UNITS.leaves("a cycle of 7", 0, x -> x.cycles(7));
        UNITS.leaves("a cycle of 60", 0, x -> x.cycles(60));
        UNITS.ranges("cycles's n", 1, 60, NONE, EightParts::cycles);
    }

    /** 10,001 SIXTH has all parts within; by a unit it is 10,001 times one, and 16 of 240 units have no halves. */
    private static void nucleusIfTheyCanBe() {
        Stage held = Stage.units(DUE).lay(0, 2).lay(1, 200).lay(2, 202).lay(3, 10000, 10000, 10000, 10000)
            .lay(4, 10001, 10001, 10001, 10001).lay(5, 1).lay(6, 4).lay(7);
        held.leaves("100 by 100", 240, x -> x.nucleus(1, 1));
        held.leaves("100 by 101", 0, x -> x.nucleus(1, 2));
        held.leaves("u x is 10000 at most", 240, x -> x.nucleus(3, 0));
        held.leaves("u x is 10001 at most", 224, x -> x.nucleus(4, 0));
        held.leaves("u y is 10001 at most", 224, x -> x.nucleus(0, 4));
        held.leaves("1/2 by 1/2", 0, x -> x.nucleus(5, 5));
        held.leaves("(u 1/2) 2 : units without halves", 16, x -> x.nucleus(5, 6));
        held.leaves("(u 2) 1/2 : all units", 240, x -> x.nucleus(6, 5));
        held.leaves("0 by 0", 240, x -> x.nucleus(7, 7));
    }

    private static void nucleusRefused() {
        UNITS.eighth("nucleus's x", NONE, (x, v) -> x.nucleus(v, 1));
        UNITS.eighth("nucleus's y", NONE, (x, v) -> x.nucleus(1, v));
    }
}
