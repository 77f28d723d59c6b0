/** The bounds of promises 24 to 31: what is told of a slot, at the greatest numbers and of no such ones. */
public final class ToldBoundsTest {
    private static final int NONE = EightParts.NONE;
    private static final int NO_PART = NONE - 29999;
    private static final int MOST = 2000000000;
    private static final Due DUE = new Due();
    private static final Stage UNITS = Stage.units(DUE);

    public static void main(String[] args) {
        partAtTheEnds();
        partRefused();
        normAtTheEnds();
        spellWithoutSigns();
        spellEachSign();
        spellRefused();
        turnedAtTheEnds();
        turnedWithQuarters();
        turnedRefused();
        oddAtTheEnds();
        wholeOfNoneAndOfAll();
        ordersOfNoneAndOfAll();
        sameButForOnePart();
        DUE.end();
    }

    private static void partAtTheEnds() {
        for (int i = 0; i < 8; i++) {
            int part = i;
            Stage held = Stage.units(DUE).lay(i, Rows.at(i, 20000)).lay(7 - i, Rows.at(i, -20000));
            held.leaves("20000", 20000, x -> x.part(part, part));
            held.leaves("-20000", -20000, x -> x.part(7 - part, part));
            held.leaves("0", 0, x -> x.part(part, 7 - part));
        }
    }

    private static void partRefused() {
        UNITS.eighth("part's slot", NO_PART, (x, v) -> x.part(v, 0));
        UNITS.eighth("part's part", NO_PART, (x, v) -> x.part(0, v));
        DUE.is("NONE - 29999", NO_PART, -30000);
    }

    private static void norms(String call, int want, int... row) {
        Stage held = Stage.units(DUE).lay(0, row);
        held.leaves("norm of " + call, want, x -> x.norm(0));
        held.leaves("inner of " + call, want, x -> x.inner(0, 0));
    }

    private static void normAtTheEnds() {
        norms("0", 0);
        norms("1/2", 1, 0, 0, 0, 0, 0, 0, 0, -1);
        norms("one less", MOST - 1, 20000, 20000, 20000, 20000, 19999, 199, 19, 6);
        norms("the most", MOST, 20000, -20000, 20000, -20000, 20000);
        norms("the most of eight parts", MOST, -10670, -20000, -11342, -11546, 15696, -13760, 20000, 20000);
        norms("one more", MOST, 20000, 20000, 20000, 20000, 20000, 0, 0, 1);
        norms("all at the end", MOST, Rows.all(20000));
        UNITS.eighth("norm's slot", NONE, (x, v) -> x.norm(v));
    }

    private static void spelled(String want, int... row) {
        Stage held = Stage.units(DUE).lay(3, row);
        held.leaves("signs of " + want, want.length(), x -> x.spell(3, NONE));
        for (int i = 0; i < want.length(); i++) {
            int sign = i;
            held.answers("sign " + i + " of " + want, want.charAt(i), x -> x.spell(3, sign));
        }
        held.refuses("spell of " + want, NONE, (x, v) -> x.spell(3, v), -2, want.length());
    }

    private static void spellWithoutSigns() {
        spelled("0");
    }

    private static void spellEachSign() {
        spelled("1/2e0", 1);
        spelled("-1/2e0", -1);
        spelled("1e7", 0, 0, 0, 0, 0, 0, 0, 2);
        spelled("-1e7", 0, 0, 0, 0, 0, 0, 0, -2);
        spelled("10000e0-10000e7", 20000, 0, 0, 0, 0, 0, 0, -20000);
        spelled("-19999/2e0+19999/2e1", -19999, 19999);
        spelled("1e1+1/2e2-1e3-1/2e4", 0, 2, 1, -2, -1);
        StringBuilder longest = new StringBuilder();
        for (int i = 0; i < 8; i++) {
            longest.append("-19999/2e").append(i);
        }
        spelled(longest.toString(), Rows.all(-19999));
    }

    private static void spellRefused() {
        UNITS.eighth("spell's slot", NONE, (x, v) -> x.spell(v, NONE));
        UNITS.eighth("spell's slot for a sign", NONE, (x, v) -> x.spell(v, 0));
        UNITS.ranges("spell's i", NONE, 2, NONE, (x, v) -> x.spell(1, v));
    }

    private static void turnedAtTheEnds() {
        Stage held = Stage.units(DUE).lay(0, 20000).lay(1, 200).lay(2, 202).lay(3, Rows.at(7, -20000));
        for (int how = 0; how < 2; how++) {
            int turn = how;
            held.leaves("10000 by turn " + how, 20000, x -> x.turned(0, turn, 5, 5));
            held.leaves("-10000 by turn " + how, -20000, x -> x.turned(3, turn, 0, 7));
        }
        for (int how = 2; how < 4; how++) {
            int turn = how;
            held.leaves("100 by 100 by turn " + how, 20000, x -> x.turned(1, turn, 5, 5));
            held.leaves("101 by 101 by turn " + how, NO_PART, x -> x.turned(2, turn, 5, 5));
            held.leaves("another part of what cannot be by turn " + how, NO_PART, x -> x.turned(2, turn, 5, 4));
            held.leaves("10000 by 10000 by turn " + how, NO_PART, x -> x.turned(0, turn, 5, 5));
        }
        held.leaves("a part of 0", 0, x -> x.turned(1, 2, 5, 4));
    }

    private static void turnedWithQuarters() {
        Stage held = Stage.units(DUE).lay(0, 1).lay(1, 1, 1, 1, 1).lay(2, 2, 1);
        held.leaves("1/2 E(5)", 1, x -> x.turned(0, 0, 5, 5));
        held.leaves("E(5) 1/2", 1, x -> x.turned(0, 1, 5, 5));
        held.leaves("1/2 E(5) 1/2", NO_PART, x -> x.turned(0, 2, 5, 5));
        held.leaves("1/2 E(5) 1/2'", NO_PART, x -> x.turned(0, 3, 5, 5));
        held.leaves("a part of these without quarters", NO_PART, x -> x.turned(2, 2, 0, 1));
        held.leaves("four quarters", 2, x -> x.turned(1, 3, 0, 0));
    }

    private static void turnedRefused() {
        UNITS.eighth("turned's slot", NO_PART, (x, v) -> x.turned(v, 0, 1, 2));
        UNITS.ranges("turned's how", 0, 3, NO_PART, (x, v) -> x.turned(0, v, 1, 2));
        UNITS.eighth("turned's i", NO_PART, (x, v) -> x.turned(0, 1, v, 2));
        UNITS.eighth("turned's part", NO_PART, (x, v) -> x.turned(0, 1, 2, v));
    }

    private static void oddAtTheEnds() {
        for (int i = 0; i < 8; i++) {
            Stage held = Stage.units(DUE).lay(0, Rows.at(i, 19999)).lay(1, Rows.at(i, -19999)).lay(2, Rows.at(i, 20000))
                .lay(3, Rows.at(i, -20000)).lay(4, Rows.at(i, -1));
            int[] due = {1 << i, 1 << i, 0, 0, 1 << i};
            for (int slot = 0; slot < 5; slot++) {
                int from = slot;
                held.leaves("odd of slot " + slot, due[slot], x -> x.odd(from));
            }
        }
        Stage all = Stage.units(DUE).lay(7, -1, 1, -3, 3, -5, 5, -7, 7);
        all.leaves("all eight", 255, x -> x.odd(7));
        UNITS.eighth("odd's slot", NONE, (x, v) -> x.odd(v));
    }

    private static void wholeOfNoneAndOfAll() {
        for (int order = 0; order < 8; order++) {
            Stage held = Stage.units(DUE).order(order).lay(0, -1, 1, -3, 3, -5, 5, -7, 19999).lay(1, 1)
                .lay(2, -1, 1, -3, 3, -5, 5, -7, 20000);
            held.leaves("eight odd ones in order " + order, order > 0 ? 1 : 0, x -> x.whole(0));
            held.leaves("one odd one in order " + order, 0, x -> x.whole(1));
            held.leaves("seven odd ones in order " + order, 0, x -> x.whole(2));
            held.leaves("none in order " + order, 1, x -> x.whole(7));
        }
        UNITS.eighth("whole's slot", NONE, (x, v) -> x.whole(v));
    }

    private static void ordersOfNoneAndOfAll() {
        Stage held = Stage.units(DUE).lay(0, -1, 1, -3, 3, -5, 5, -7, 19999).lay(1, 1).lay(2)
            .lay(3, 1, 1, 1, 1).lay(4, 1, 1, 1, 0, 1);
        held.leaves("eight odd ones", 254, x -> x.orders(0));
        held.leaves("one odd one", 0, x -> x.orders(1));
        held.leaves("none", 255, x -> x.orders(2));
        held.leaves("of three", 14, x -> x.orders(3));
        held.leaves("of the last alone", 128, x -> x.orders(4));
        UNITS.eighth("orders's slot", NONE, (x, v) -> x.orders(v));
    }

    private static void sameButForOnePart() {
        int[] row = {20000, -20000, 1, -1, 2, -2, 19999, -19999};
        for (int i = 0; i < 8; i++) {
            int[] other = row.clone();
            other[i] = -other[i];
            Stage held = Stage.units(DUE).lay(0, row).lay(7, other).lay(3, row);
            held.leaves("but for part " + i, 0, x -> x.same(0, 7));
            held.leaves("all parts", 1, x -> x.same(0, 3));
        }
        UNITS.eighth("same's x", NONE, (x, v) -> x.same(v, 3));
        UNITS.eighth("same's y", NONE, (x, v) -> x.same(3, v));
        UNITS.leaves("same(8, 8)", NONE, x -> x.same(8, 8));
    }
}
