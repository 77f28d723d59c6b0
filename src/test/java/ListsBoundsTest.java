/** The bounds of promises 32 to 42: norms 0 .. 3, the first and the last of a list, great numbers, no such ones. */
public final class ListsBoundsTest {
    private static final int NONE = EightParts.NONE;
    private static final int NO_PART = NONE - 29999;
    private static final int MOST = 2000000000;
    private static final int[] MANY = {1, 240, 2160, 6720};
    private static final int[] MANY_IN_0 = {1, 16, 112, 448};
    private static final Due DUE = new Due();
    private static final Stage UNITS = Stage.units(DUE);

    public static void main(String[] args) {
        manyOfEachNorm();
        listedPartOfTheFirstAndTheLast();
        listedPartRefused();
        placeOfTheFirstAndTheLast();
        placeOfOthers();
        placeBeyondTheEnds();
        divisorsRefused();
        divisorsOfWhatIsNotWhole();
        divisorsOfGreatOnes();
        divisorAtTheEnds();
        divisorRefused();
        innerAtTheEnds();
        anglesAtTheEnds();
        anglesRefused();
        alikeAsGreatAsItComes();
        alikeRefused();
        alikeManyAtTheEnds();
        alikeManyRefused();
        commutingIfTheyCanBe();
        commutingRefused();
        sidesIfTheyCanBe();
        sidesOfItsOwn();
        sidesRefused();
        DUE.end();
    }

    private static Stage inOrder(int order) {
        return Stage.units(DUE).order(order);
    }

    private static void manyOfEachNorm() {
        for (int order = 0; order < 8; order++) {
            for (int norm = 0; norm <= 3; norm++) {
                int of = norm;
                inOrder(order).leaves("norm " + norm + " in order " + order, (order > 0 ? MANY : MANY_IN_0)[norm],
                    x -> x.many(of));
            }
            inOrder(order).ranges("many's norm", 0, 3, NONE, EightParts::many);
        }
    }

    private static void listedPartOfTheFirstAndTheLast() {
        int[][] last = {{0}, {2}, {2, 2}, {3, 1, 1, 1}};
        for (int norm = 0; norm <= 3; norm++) {
            for (int part = 0; part < 8; part++) {
                int of = norm;
                int from = part;
                int due = part < last[norm].length ? last[norm][part] : 0;
                UNITS.leaves("the last of norm " + norm, due, x -> x.listedPart(of, MANY[of] - 1, from));
                UNITS.leaves("the first of norm " + norm, -due, x -> x.listedPart(of, 0, from));
            }
        }
    }

    private static void listedPartRefused() {
        UNITS.ranges("listedPart's norm", 0, 3, NO_PART, (x, v) -> x.listedPart(v, 0, 0));
        UNITS.eighth("listedPart's part", NO_PART, (x, v) -> x.listedPart(1, 0, v));
        for (int norm = 0; norm <= 3; norm++) {
            int of = norm;
            UNITS.ranges("listedPart's k", 0, MANY[norm] - 1, NO_PART, (x, v) -> x.listedPart(of, v, 0));
            inOrder(0).ranges("its k in order 0", 0, MANY_IN_0[norm] - 1, NO_PART, (x, v) -> x.listedPart(of, v, 0));
        }
    }

    private static void placeOfTheFirstAndTheLast() {
        for (int order = 0; order < 8; order++) {
            int[] many = order > 0 ? MANY : MANY_IN_0;
            Stage held = inOrder(order).lay(0, 2).lay(1, -2).lay(2, 2, 2).lay(3, -2, -2).lay(4);
            held.leaves("1 in order " + order, many[1] - 1, x -> x.place(0));
            held.leaves("-1 in order " + order, 0, x -> x.place(1));
            held.leaves("1 and E(1) in order " + order, many[2] - 1, x -> x.place(2));
            held.leaves("-1 less E(1) in order " + order, 0, x -> x.place(3));
            held.leaves("0 in order " + order, 0, x -> x.place(4));
        }
        Stage three = inOrder(1).lay(0, 3, 1, 1, 1).lay(1, -3, -1, -1, -1);
        three.leaves("the last of norm 3", 6719, x -> x.place(0));
        three.leaves("the first of norm 3", 0, x -> x.place(1));
    }

    private static void placeOfOthers() {
        Stage held = inOrder(1).lay(0, 1).lay(1, 4).lay(2, 3, 2).lay(3, 1, 1, 1, 0, 1).lay(4, 2, 2, 2, 2)
            .lay(5, Rows.all(20000)).lay(6, 0, 1, 1, 1, 3);
        held.leaves("a norm of 1/4", -2, x -> x.place(0));
        held.leaves("norm 4", -2, x -> x.place(1));
        held.leaves("a norm of 13/4", -2, x -> x.place(2));
        held.leaves("a norm of 1, not WHOLE", -2, x -> x.place(3));
        held.leaves("norm 4 of four", -2, x -> x.place(4));
        held.leaves("a great norm", -2, x -> x.place(5));
        held.leaves("a norm of 3, not WHOLE", -2, x -> x.place(6));
        UNITS.eighth("place's slot", NONE, (x, v) -> x.place(v));
        held.leaves("NONE ahead of -2", NONE, x -> x.place(8));
    }

    /** By these orders 3/2 and three of 1/2 aren't WHOLE, though their NORM is 3: all LISTED ones lie between. */
    private static void placeBeyondTheEnds() {
        for (int order : new int[] {0, 4, 5, 6, 7}) {
            Stage held = inOrder(order).lay(0, 3, 1, 1, 1).lay(1, -3, -1, -1, -1);
            held.leaves("beyond the last of order " + order, -2, x -> x.place(0));
            held.leaves("ahead of the first of order " + order, -2, x -> x.place(1));
        }
        EightParts x = new EightParts();
        Due.lay(x, 0, 3, 1, 1, 1);
        DUE.is("the last one, by order 1", x.place(0), 6719);
        x.order(0);
        DUE.is("what was the last one, by order 0", x.place(0), -2);
        x.order(3);
        DUE.is("the last one again, by order 3", x.place(0), 6719);
        x.order(7);
        DUE.is("what was the last one, by order 7", x.place(0), -2);
    }

    private static void divisorsRefused() {
        for (boolean side : new boolean[] {false, true}) {
            UNITS.eighth("divisors's slot", NONE, (x, v) -> x.divisors(v, 1, side));
            UNITS.ranges("divisors's norm", 1, 3, NONE, (x, v) -> x.divisors(0, v, side));
        }
    }

    private static void divisorsOfWhatIsNotWhole() {
        Stage held = inOrder(1).lay(0).lay(1, 1).lay(2, 1, 1, 1, 0, 1);
        for (boolean side : new boolean[] {false, true}) {
            for (int norm = 1; norm <= 3; norm++) {
                int of = norm;
                held.leaves("0 of norm " + norm, MANY[norm], x -> x.divisors(0, of, side));
                held.leaves("1/2 of norm " + norm, 0, x -> x.divisors(1, of, side));
                held.leaves("what is not WHOLE, of norm " + norm, 0, x -> x.divisors(2, of, side));
            }
        }
    }

    /** 10,000 is 2 by 5,000: all of norm 1 and 2 divide it, none of norm 3; the quotients may be beyond. */
    private static void divisorsOfGreatOnes() {
        int[] due = {0, 240, 2160, 0};
        Stage held = inOrder(1).lay(0, 20000).lay(1, Rows.all(20000))
            .lay(2, Rows.all(19998));
        for (boolean side : new boolean[] {false, true}) {
            for (int norm = 1; norm <= 3; norm++) {
                int of = norm;
                held.leaves("10000 of norm " + norm, due[norm], x -> x.divisors(0, of, side));
                held.leaves("all 10000 of norm " + norm, due[norm], x -> x.divisors(1, of, side));
                held.leaves("all 9999 of norm " + norm, MANY[norm], x -> x.divisors(2, of, side));
            }
        }
    }

    private static void divisorAtTheEnds() {
        Stage held = inOrder(1).lay(0).lay(1, 1).lay(2, 2);
        for (boolean side : new boolean[] {false, true}) {
            for (int norm = 1; norm <= 3; norm++) {
                int of = norm;
                int many = MANY[norm];
                held.leaves("the first", 0, x -> x.divisor(0, of, side, 0));
                held.leaves("the last", many - 1, x -> x.divisor(0, of, side, many - 1));
                held.leaves("not so many", -2, x -> x.divisor(0, of, side, many));
                held.leaves("the greatest k", -2, x -> x.divisor(0, of, side, Integer.MAX_VALUE));
                held.leaves("none at all", -2, x -> x.divisor(1, of, side, 0));
                held.leaves("a unit's", norm == 1 ? 0 : -2, x -> x.divisor(2, of, side, 0));
            }
        }
    }

    private static void divisorRefused() {
        Stage held = inOrder(1).lay(0, 1);
        for (boolean side : new boolean[] {false, true}) {
            UNITS.eighth("divisor's slot", NONE, (x, v) -> x.divisor(v, 1, side, 0));
            UNITS.ranges("divisor's norm", 1, 3, NONE, (x, v) -> x.divisor(0, v, side, 0));
            held.leaves("k below 0, ahead of -2", NONE, x -> x.divisor(0, 1, side, -1));
            held.leaves("the least k", NONE, x -> x.divisor(0, 1, side, Integer.MIN_VALUE));
            held.leaves("norm 0, ahead of -2", NONE, x -> x.divisor(0, 0, side, 0));
            held.leaves("norm 4, ahead of -2", NONE, x -> x.divisor(0, 4, side, 0));
        }
    }

    private static void inner(String call, int want, int[] one, int... other) {
        Stage held = Stage.units(DUE).lay(0, one).lay(1, other);
        held.leaves("inner: " + call, want, x -> x.inner(0, 1));
        held.leaves("inner the other way: " + call, want, x -> x.inner(1, 0));
    }

    private static void innerAtTheEnds() {
        int[] five = {20000, 20000, 20000, 20000, 20000, 1};
        inner("the most", MOST, five, 20000, 20000, 20000, 20000, 20000, 0);
        inner("one less", MOST - 1, five, 20000, 20000, 20000, 20000, 20000, -1);
        inner("one more", MOST, five, 20000, 20000, 20000, 20000, 20000, 1);
        inner("the least", -MOST, five, -20000, -20000, -20000, -20000, -20000, 0);
        inner("one more than the least", 1 - MOST, five, -20000, -20000, -20000, -20000, -20000, 1);
        inner("one less than the least", -MOST, five, -20000, -20000, -20000, -20000, -20000, -1);
        int[] all = Rows.all(20000);
        inner("far above", MOST, all, all);
        inner("far below", -MOST, all, Rows.all(-20000));
        UNITS.eighth("inner's x", NONE, (x, v) -> v == 3 ? 0 : x.inner(v, 3));
        UNITS.eighth("inner's y", NONE, (x, v) -> v == 3 ? 0 : x.inner(3, v));
    }

    /** With 10,000 a unit has 20,000 by twice its part 0, the four of norm 3 with 3/2 ahead 60,000. */
    private static void anglesAtTheEnds() {
        Stage held = inOrder(1).lay(0, 20000).lay(1);
        held.leaves("the most of norm 1", 1, x -> x.angles(0, 1, 40000));
        held.leaves("the least of norm 1", 1, x -> x.angles(0, 1, -40000));
        held.leaves("one beside", 0, x -> x.angles(0, 1, 39999));
        held.leaves("3/2 ahead: 7 sets by 8 signs", 56, x -> x.angles(0, 3, 60000));
        held.leaves("-3/2 ahead", 56, x -> x.angles(0, 3, -60000));
        held.leaves("above all", 0, x -> x.angles(0, 3, 60001));
        held.leaves("the greatest int", 0, x -> x.angles(0, 3, Integer.MAX_VALUE));
        held.leaves("the least int", 0, x -> x.angles(0, 3, Integer.MIN_VALUE));
        held.leaves("0 by norm 0", 1, x -> x.angles(1, 0, 0));
        held.leaves("0 by norm 3", 6720, x -> x.angles(1, 3, 0));
        held.leaves("0 by norm 3: -1", 0, x -> x.angles(1, 3, -1));
    }

    private static void anglesRefused() {
        UNITS.eighth("angles's slot", NONE, (x, v) -> x.angles(v, 1, 0));
        UNITS.ranges("angles's norm", 0, 3, NONE, (x, v) -> x.angles(0, v, 0));
    }

    /** 10,000 less -10,000 is 20,000: 64 by 625/2, and 625 by 32, doubled 40,000. */
    private static void alikeAsGreatAsItComes() {
        for (int i = 0; i < 8; i++) {
            Stage held = Stage.units(DUE).lay(0, Rows.at(i, 20000)).lay(1, Rows.at(i, -20000)).lay(2, Rows.at(i, 19998));
            held.leaves("by 1", 1, x -> x.alike(0, 1, 1));
            held.leaves("by 1000", 1, x -> x.alike(1, 0, 1000));
            held.leaves("by 625", 1, x -> x.alike(0, 1, 625));
            held.leaves("by 64: an odd part alone", 0, x -> x.alike(0, 1, 64));
            held.leaves("by 999", 0, x -> x.alike(0, 1, 999));
            held.leaves("39998 by 1", 1, x -> x.alike(1, 2, 1));
            held.leaves("39998 by 7", 1, x -> x.alike(1, 2, 7));
            held.leaves("39998 by 1000", 0, x -> x.alike(1, 2, 1000));
            held.leaves("2 by 2", 0, x -> x.alike(0, 2, 2));
            held.leaves("2 by 1", 1, x -> x.alike(0, 2, 1));
            held.leaves("a number and itself by 1000", 1, x -> x.alike(0, 0, 1000));
        }
        int[] all = Rows.all(20000);
        int[] none = Rows.all(-20000);
        for (int order = 0; order < 8; order++) {
            Stage held = inOrder(order).lay(0, all).lay(1, none);
            held.leaves("eight odd ones by 64", order > 0 ? 1 : 0, x -> x.alike(0, 1, 64));
            held.leaves("-1 is odd, too", order > 0 ? 1 : 0, x -> x.alike(1, 0, 64));
        }
    }

    private static void alikeRefused() {
        UNITS.eighth("alike's x", NONE, (x, v) -> x.alike(v, 1, 1));
        UNITS.eighth("alike's y", NONE, (x, v) -> x.alike(1, v, 1));
        UNITS.ranges("alike's n", 1, 1000, NONE, (x, v) -> x.alike(1, 2, v));
    }

    private static void alikeManyAtTheEnds() {
        Stage held = inOrder(1).lay(0).lay(1, 1).lay(2, 20000);
        for (int norm = 0; norm <= 3; norm++) {
            int of = norm;
            held.leaves("0 by 1", MANY[norm], x -> x.alikeMany(0, of, 1));
            held.leaves("1/2 by 1", 0, x -> x.alikeMany(1, of, 1));
            held.leaves("0 by 1000", norm == 0 ? 1 : 0, x -> x.alikeMany(0, of, 1000));
            held.leaves("10000 by 1000", norm == 0 ? 1 : 0, x -> x.alikeMany(2, of, 1000));
            held.leaves("10000 by 1", MANY[norm], x -> x.alikeMany(2, of, 1));
        }
    }

    private static void alikeManyRefused() {
        UNITS.eighth("alikeMany's slot", NONE, (x, v) -> x.alikeMany(v, 1, 1));
        UNITS.ranges("alikeMany's norm", 0, 3, NONE, (x, v) -> x.alikeMany(1, v, 1));
        UNITS.ranges("alikeMany's n", 1, 1000, NONE, (x, v) -> x.alikeMany(1, 1, v));
    }

    private static void commutingIfTheyCanBe() {
        Stage held = inOrder(1).lay(0, 20000).lay(1, 20000, 20000).lay(2, 1).lay(3).lay(4, 19999);
        held.leaves("10000 by all units", 240, x -> x.commuting(0, 1));
        held.leaves("10000 by norm 0", 1, x -> x.commuting(0, 0));
        held.leaves("10000 by norm 2", 2160, x -> x.commuting(0, 2));
        held.leaves("10000 by norm 3: not by 3/2", 6720 - 14 * 4 * 16, x -> x.commuting(0, 3));
        held.leaves("0 by all", 6720, x -> x.commuting(3, 3));
        held.leaves("1/2 by halves has quarters", 16, x -> x.commuting(2, 1));
        held.leaves("19999/2 by halves has quarters", 16, x -> x.commuting(4, 1));
        // By 1, by E(1) and by the others of two parts in these alone, with either sign.
        held.leaves("10000 and 10000 E(1) by units", 4, x -> x.commuting(1, 1));
        held.leaves("by 1 and E(1) both it is beyond", 0, x -> x.commuting(1, 2));
    }

    private static void commutingRefused() {
        UNITS.eighth("commuting's slot", NONE, (x, v) -> x.commuting(v, 1));
        UNITS.ranges("commuting's norm", 0, 3, NONE, (x, v) -> x.commuting(0, v));
    }

    /** 10,000 (1 + E(1) + E(2) + E(3)) by a half of these with other signs is beyond, or 10,000 times a unit. */
    private static void sidesIfTheyCanBe() {
        Stage held = inOrder(1).lay(0, 20000, 20000, 20000, 20000).lay(1, 20000, 20000, 20000, 20000).lay(2)
            .lay(3, 1).lay(4, 0, 1).lay(5, 19999).lay(6, 1, 1);
        for (boolean side : new boolean[] {false, true}) {
            held.leaves("itself", 1, x -> x.sides(0, 1, side));
            held.leaves("0 is 0", 240, x -> x.sides(2, 2, side));
            held.leaves("0 is nothing else", 0, x -> x.sides(2, 3, side));
            held.leaves("1/2 is 1/2 E(1)", 1, x -> x.sides(3, 4, side));
            held.leaves("another norm", 0, x -> x.sides(3, 5, side));
            held.leaves("a quarter and a quarter cannot be", 0, x -> x.sides(3, 6, side));
        }
    }

    /** u (1 + E(4)) is (1 + E(4)) v for a v that has halves at 0, 5, 6, 7, which isn't WHOLE in order 1. */
    private static void sidesOfItsOwn() {
        Stage held = inOrder(1).lay(0, 2, 0, 0, 0, 2).lay(1, 1, 1, 1, 1);
        held.answers("u times x", 1, x -> x.product(2, 1, 0) == 1 ? x.sides(0, 2, false) : NONE);
        held.answers("x times u, where u times x is due", 0, x -> x.product(2, 1, 0) == 1 ? x.sides(0, 2, true) : NONE);
        held.answers("x times u", 1, x -> x.product(2, 0, 1) == 1 ? x.sides(0, 2, true) : NONE);
        held.answers("u times x, where x times u is due", 0, x -> x.product(2, 0, 1) == 1 ? x.sides(0, 2, false) : NONE);
    }

    private static void sidesRefused() {
        for (boolean side : new boolean[] {false, true}) {
            UNITS.eighth("sides's x", NONE, (x, v) -> x.sides(v, 1, side));
            UNITS.eighth("sides's y", NONE, (x, v) -> x.sides(1, v, side));
        }
    }
}
