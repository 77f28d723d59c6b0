/** Promises 43 to 50: cycle .. nucleus. */
public final class UnitsTest {
    private static final Due DUE = new Due();

    public static void main(String[] args) {
        cycle();
        made();
        madeOfAll();
        madeAt();
        table();
        tableOfAllOrders();
        turnCycle();
        shared();
        cycles();
        nucleus();
        DUE.end();
    }

    private static void cycle() {
        EightParts x = new EightParts();
        x.one(0, 0);
        DUE.is("of 1", x.cycle(0), 1);
        x.times(0, 0, -1);
        DUE.is("of -1", x.cycle(0), 2);
        Due.lay(x, 0, -1, 1, -1, 1);
        DUE.is("with -1/2 ahead", x.cycle(0), 3);
        x.one(0, 7);
        DUE.is("of E(7)", x.cycle(0), 4);
        Due.lay(x, 0, 1, 1, -1, 1);
        DUE.is("with 1/2 ahead", x.cycle(0), 6);
        DUE.is("of 0", x.cycle(1), -2);
        Due.lay(x, 1, 4);
        DUE.is("of 2, too great once", x.cycle(1), -2);
        Due.lay(x, 1, 1);
        DUE.is("of 1/2, whose square has quarters", x.cycle(1), -2);
        // Not whole in order 1, but its powers can be all the same.
        Due.lay(x, 1, 1, 1, 1, 0, 1);
        DUE.is("whole(1)", x.whole(1), 0);
        DUE.is("a cycle without being whole", x.cycle(1), 6);
        DUE.is("slot 8", x.cycle(8), -1);
        DUE.is("slot -1", x.cycle(-1), -1);
    }

    private static void made() {
        EightParts x = new EightParts();
        x.one(0, 0);
        DUE.is("of 1", x.made(1, 0), 1);
        DUE.is("of 1", x.made(1, 3), 1);
        DUE.is("of 1", x.made(1, 4), 1);
        x.one(1, 1);
        x.one(2, 2);
        x.one(3, 4);
        int[][] due = {{4, 1, 1, 4, 2}, {8, 1, 0, 2, 2}, {16, 0, 0, 2, 2}};
        int[] sets = {2, 6, 14};
        for (int k = 0; k < 3; k++) {
            for (int what = 0; what < 5; what++) {
                DUE.is("made(" + sets[k] + ", " + what + ")", x.made(sets[k], what), due[k][what]);
            }
        }
        Due.lay(x, 4, -1, 1, 1, 1);
        DUE.is("a third root", x.made(16, 0), 3);
        DUE.is("a third root: x x is 1 of 1 alone", x.made(16, 4), 1);
        DUE.is("24 of halves", x.made(16 + 2, 0), 24);
        DUE.is("24 of halves", x.made(16 + 2, 1), 1);
        DUE.is("24 of halves", x.made(16 + 2, 2), 0);
        Due.lay(x, 5, 1, 1, 1, 0, 1);
        DUE.is("not whole here", x.made(32, 0), -2);
        DUE.is("one of several holds no unit", x.made(2 + 32, 0), -2);
        x.order(7);
        DUE.is("a unit here", x.made(32, 0), 6);
        Due.lay(x, 5, 2, 2);
        DUE.is("whole, of norm 2", x.made(32, 1), -2);
        DUE.is("no slots", x.made(0, 0), -1);
        DUE.is("256", x.made(256, 0), -1);
        DUE.is("-1", x.made(-1, 0), -1);
        DUE.is("what 5", x.made(2, 5), -1);
        DUE.is("what -1", x.made(2, -1), -1);
        DUE.is("NONE ahead of -2", x.made(32, 5), -1);
    }

    private static void madeOfAll() {
        EightParts x = new EightParts();
        x.one(1, 1);
        x.one(2, 2);
        x.one(3, 4);
        Due.lay(x, 4, -1, 1, 1, 1);
        // In order 1 {0, 1, 4, 5} may be odd, too.
        Due.lay(x, 5, 1, 1, 0, 0, 1, 1);
        DUE.is("whole(5)", x.whole(5), 1);
        DUE.is("all", x.made(62, 0), 240);
        DUE.is("all", x.made(62, 1), 0);
        DUE.is("all", x.made(62, 2), 0);
        DUE.is("all", x.made(62, 3), 2);
        DUE.is("all", x.made(62, 4), 2);
        DUE.is("the last of all", x.madeAt(62, 239), 239);
        DUE.is("no more", x.madeAt(62, 240), -1);
        x.order(0);
        DUE.is("halves in order 0", x.made(62, 0), -2);
        DUE.is("the rest in order 0", x.made(14, 0), 16);
    }

    private static void madeAt() {
        EightParts x = new EightParts();
        x.one(0, 1);
        x.times(1, 0, -1);
        int[] due = {0, x.place(1), x.place(0), 239};
        for (int k = 0; k < 4; k++) {
            DUE.is("madeAt(1, " + k + ")", x.madeAt(1, k), due[k]);
        }
        DUE.is("madeAt(1, 4)", x.madeAt(1, 4), -1);
        DUE.is("madeAt(1, -1)", x.madeAt(1, -1), -1);
        DUE.is("madeAt(0, 0)", x.madeAt(0, 0), -1);
        DUE.is("madeAt(256, 0)", x.madeAt(256, 0), -1);
        DUE.is("madeAt(4, 0)", x.madeAt(4, 0), -2);
        DUE.is("madeAt(4, -1)", x.madeAt(4, -1), -1);
    }

    private static void table() {
        EightParts x = new EightParts();
        for (int n = 0; n < 60; n++) {
            int i = n * 37 % 240;
            int k = n * 71 % 240;
            x.listed(0, 1, i);
            x.listed(1, 1, k);
            x.product(2, 0, 1);
            DUE.is("table(" + i + ", " + k + ")", x.table(i, k), x.place(2));
        }
        DUE.is("table(-1, 0)", x.table(-1, 0), -1);
        DUE.is("table(0, 240)", x.table(0, 240), -1);
        DUE.is("table(240, 0)", x.table(240, 0), -1);
        x.order(0);
        DUE.is("table(0, 16)", x.table(0, 16), -1);
        DUE.is("table(0, 0) in order 0", x.table(0, 0), 15);
        DUE.is("table(15, 3) in order 0", x.table(15, 3), 3);
    }

    /** The same numbers stand for other units, once another order holds. */
    private static void tableOfAllOrders() {
        EightParts x = new EightParts();
        for (int order = 7; order > 0; order--) {
            x.order(order);
            for (int n = 0; n < 12; n++) {
                int i = n * 37 % 240;
                int k = n * 71 % 120;
                x.listed(0, 1, i);
                x.listed(1, 1, k);
                DUE.is("the product can be", x.product(2, 0, 1), 1);
                DUE.is("order " + order + ": table(" + i + ", " + k + ")", x.table(i, k), x.place(2));
            }
        }
    }

    private static void turnCycle() {
        EightParts x = new EightParts();
        x.one(0, 1);
        x.one(1, 2);
        DUE.is("E(1) E(2)", x.turnCycle(1, 0, 0), 4);
        DUE.is("E(2) E(1)", x.turnCycle(1, 0, 1), 4);
        DUE.is("(E(1) E(2)) E(1)", x.turnCycle(1, 0, 2), 1);
        DUE.is("(E(1) E(2)) E(1)'", x.turnCycle(1, 0, 3), 2);
        Due.lay(x, 2, 1, 1, 1, 1);
        DUE.is("a sixth root on the left", x.turnCycle(1, 2, 0), 6);
        DUE.is("a sixth root as an inner turn", x.turnCycle(1, 2, 3), 3);
        Due.lay(x, 3, 4);
        DUE.is("by 2, too great once", x.turnCycle(1, 3, 0), -2);
        DUE.is("0 by 2", x.turnCycle(7, 3, 0), 1);
        DUE.is("by 0", x.turnCycle(1, 7, 0), -2);
        Due.lay(x, 4, 1);
        DUE.is("by 1/2", x.turnCycle(4, 4, 0), -2);
        // Nearly a seventh root would do, but whole turns end soon.
        DUE.is("how 4", x.turnCycle(1, 0, 4), -1);
        DUE.is("how -1", x.turnCycle(1, 0, -1), -1);
        DUE.is("slot 8", x.turnCycle(8, 0, 0), -1);
        DUE.is("slot -1", x.turnCycle(0, -1, 0), -1);
    }

    private static void shared() {
        EightParts x = new EightParts();
        for (int order = 0; order < 8; order++) {
            for (int other = 0; other < 8; other++) {
                // Two orders have in common the lines on which both exchanges change nothing: two words of 14.
                int due = order == 0 || other == 0 ? 16 : order == other ? 240 : 48;
                DUE.is("shared(" + order + ", " + other + ")", x.shared(order, other), due);
            }
        }
        DUE.is("shared(8, 0)", x.shared(8, 0), -1);
        DUE.is("shared(0, -1)", x.shared(0, -1), -1);
        DUE.is("the order stays", x.count(0), 1);
    }

    private static void cycles() {
        EightParts x = new EightParts();
        int[] due = {0, 1, 1, 56, 126, 0, 56};
        for (int n = 1; n <= 60; n++) {
            DUE.is("cycles(" + n + ")", x.cycles(n), n < 7 ? due[n] : 0);
        }
        x.order(0);
        DUE.is("cycles(4) in order 0", x.cycles(4), 14);
        DUE.is("cycles(6) in order 0", x.cycles(6), 0);
        DUE.is("cycles(0)", x.cycles(0), -1);
        DUE.is("cycles(61)", x.cycles(61), -1);
    }

    private static void nucleus() {
        EightParts x = new EightParts();
        x.one(0, 1);
        x.one(1, 2);
        DUE.is("within the 24", x.nucleus(0, 1), 24);
        x.one(2, 0);
        DUE.is("with 1", x.nucleus(2, 1), 240);
        x.order(0);
        DUE.is("in order 0", x.nucleus(0, 1), 8);
        x.order(1);
        Due.lay(x, 3, 1);
        DUE.is("x y cannot be", x.nucleus(3, 3), 0);
        Due.lay(x, 4, 200);
        Due.lay(x, 5, 202);
        DUE.is("x y too great", x.nucleus(4, 5), 0);
        // 1/2 and 2: u 1/2 can be for the 16 without halves alone, though u (1/2 2) can for all.
        Due.lay(x, 6, 4);
        DUE.is("u x cannot be", x.nucleus(3, 6), 16);
        DUE.is("slot 8", x.nucleus(8, 0), -1);
        DUE.is("slot -1", x.nucleus(0, -1), -1);
    }
}
