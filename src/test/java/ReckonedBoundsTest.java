/**
 * The bounds of promises 7 to 17 but for last(): what CANNOT BE at the last part that can and the first one
 * that cannot, on the way, too; no such slots, no such numbers; NONE ahead of -2.
 */
public final class ReckonedBoundsTest {
    private static final int NONE = EightParts.NONE;
    private static final Due DUE = new Due();
    private static final Stage UNITS = Stage.units(DUE);
    private static final int[] FULL = Rows.all(20000);

    public static void main(String[] args) {
        sumAtTheEnds();
        sumRefused();
        lessAtTheEnds();
        lessRefused();
        productAtTheEnds();
        productWithQuarters();
        productRefused();
        mirrorAtTheEnds();
        timesAtTheEnds();
        timesRefused();
        turnAtTheEnds();
        turnOnTheWay();
        turnWithQuarters();
        turnRefused();
        chainAtTheEnds();
        chainOnTheWay();
        chainOfOtherTurns();
        chainRefused();
        powerAtTheEnds();
        powerRefused();
        associatorAtTheEnds();
        associatorOnTheWay();
        associatorRefused();
        commutatorAtTheEnds();
        commutatorOnTheWay();
        commutatorRefused();
        DUE.end();
    }

    private static void sumAtTheEnds() {
        for (int i = 0; i < 8; i++) {
            Stage up = Stage.units(DUE).lay(0, Rows.at(i, 20000)).lay(1, Rows.at(i, 1)).lay(2, Rows.at(i, 19999));
            up.lays("19999 and 1 at " + i, x -> x.sum(3, 2, 1), 3, Rows.at(i, 20000));
            up.leaves("20000 and 1 at " + i, -2, x -> x.sum(3, 0, 1));
            up.leaves("20000 and 20000 at " + i, -2, x -> x.sum(0, 0, 0));
            Stage down = Stage.units(DUE).lay(0, Rows.at(i, -20000)).lay(1, Rows.at(i, -1)).lay(2, Rows.at(i, -19999));
            down.lays("-1 and -19999 at " + i, x -> x.sum(1, 1, 2), 1, Rows.at(i, -20000));
            down.leaves("-1 and -20000 at " + i, -2, x -> x.sum(1, 1, 0));
            down.leaves("-20000 and -20000 at " + i, -2, x -> x.sum(3, 0, 0));
        }
    }

    private static void sumRefused() {
        UNITS.eighth("sum's to", NONE, (x, v) -> x.sum(v, 1, 2));
        UNITS.eighth("sum's x", NONE, (x, v) -> x.sum(3, v, 2));
        UNITS.eighth("sum's y", NONE, (x, v) -> x.sum(3, 1, v));
        Stage.units(DUE).lay(0, 20000).leaves("NONE ahead of -2", NONE, x -> x.sum(8, 0, 0));
    }

    private static void lessAtTheEnds() {
        for (int i = 0; i < 8; i++) {
            Stage up = Stage.units(DUE).lay(0, Rows.at(i, 20000)).lay(1, Rows.at(i, -1)).lay(2, Rows.at(i, 19999));
            up.lays("19999 less -1 at " + i, x -> x.less(3, 2, 1), 3, Rows.at(i, 20000));
            up.leaves("20000 less -1 at " + i, -2, x -> x.less(3, 0, 1));
            up.lays("-1 less 19999 at " + i, x -> x.less(2, 1, 2), 2, Rows.at(i, -20000));
            up.leaves("-1 less 20000 at " + i, -2, x -> x.less(1, 1, 0));
            up.lays("a number less itself at " + i, x -> x.less(0, 0, 0), 0);
        }
        Stage far = Stage.units(DUE).lay(0, 20000).lay(1, -20000);
        far.leaves("20000 less -20000", -2, x -> x.less(0, 0, 1));
        far.leaves("-20000 less 20000", -2, x -> x.less(0, 1, 0));
    }

    private static void lessRefused() {
        UNITS.eighth("less's to", NONE, (x, v) -> x.less(v, 1, 2));
        UNITS.eighth("less's x", NONE, (x, v) -> x.less(3, v, 2));
        UNITS.eighth("less's y", NONE, (x, v) -> x.less(3, 1, v));
        Stage far = Stage.units(DUE).lay(0, 20000).lay(1, -20000);
        far.leaves("NONE ahead of -2", NONE, x -> x.less(-1, 0, 1));
    }

    /** 6 by 6667 is 40,002, doubled parts of which half are told: 20,001. */
    private static void productAtTheEnds() {
        for (int i = 0; i < 8; i++) {
            Stage up = Stage.units(DUE).lay(0, 200).lay(1, Rows.at(i, 200)).lay(2, 6).lay(3, Rows.at(i, 6667)).lay(4, -6)
                .lay(5, -200);
            up.lays("20000 at " + i, x -> x.product(6, 0, 1), 6, Rows.at(i, 20000));
            up.lays("-20000 at " + i, x -> x.product(1, 1, 5), 1, Rows.at(i, -20000));
            up.leaves("20001 at " + i, -2, x -> x.product(6, 2, 3));
            up.leaves("-20001 at " + i, -2, x -> x.product(3, 3, 4));
        }
        Stage full = Stage.units(DUE).lay(0, FULL).lay(1).lay(3, 2);
        full.leaves("all at the end", -2, x -> x.product(0, 0, 0));
        full.lays("all at the end by 1", x -> x.product(3, 0, 3), 3, FULL);
        full.lays("all at the end by 0", x -> x.product(0, 0, 1), 0);
    }

    private static void productWithQuarters() {
        for (int i = 0; i < 8; i++) {
            Stage half = Stage.units(DUE).lay(0, 1).lay(1, Rows.at(i, 1)).lay(2, 2).lay(3, Rows.at(i, 19999)).lay(4, Rows.at(i, 2));
            half.leaves("1/2 by 1/2 at " + i, -2, x -> x.product(5, 0, 1));
            half.leaves("1/2 by 19999/2 at " + i, -2, x -> x.product(5, 3, 0));
            half.lays("1 by 19999/2 at " + i, x -> x.product(5, 2, 3), 5, Rows.at(i, 19999));
            half.lays("1/2 by 1 at " + i, x -> x.product(5, 0, 4), 5, Rows.at(i, 1));
        }
        // Two quarters make a half.
        Stage two = Stage.units(DUE).lay(0, 1, 1).lay(1, 1, -1);
        two.lays("two quarters", x -> x.product(0, 0, 1), 0, 1);
    }

    private static void productRefused() {
        UNITS.eighth("product's to", NONE, (x, v) -> x.product(v, 1, 2));
        UNITS.eighth("product's x", NONE, (x, v) -> x.product(3, v, 2));
        UNITS.eighth("product's y", NONE, (x, v) -> x.product(3, 1, v));
        Stage.units(DUE).lay(0, 1).leaves("NONE ahead of -2", NONE, x -> x.product(8, 0, 0));
    }

    private static void mirrorAtTheEnds() {
        Stage full = Stage.units(DUE).lay(7, -20000, 20000, -20000, 20000, -20000, 20000, -20000, 20000);
        full.lays("mirror(0, 7)", x -> x.mirror(0, 7), 0, -20000, -20000, 20000, -20000, 20000, -20000, 20000, -20000);
        full.lays("mirror(7, 7)", x -> x.mirror(7, 7), 7, -20000, -20000, 20000, -20000, 20000, -20000, 20000, -20000);
        UNITS.eighth("mirror's to", NONE, (x, v) -> x.mirror(v, 1));
        UNITS.eighth("mirror's x", NONE, (x, v) -> x.mirror(1, v));
    }

    /** 59 by 339 is 20,001. */
    private static void timesAtTheEnds() {
        for (int i = 0; i < 8; i++) {
            Stage held = Stage.units(DUE).lay(0, Rows.at(i, 339)).lay(1, Rows.at(i, 20)).lay(2, Rows.at(i, 20000)).lay(3, Rows.at(i, 21));
            held.lays("20 by 1000 at " + i, x -> x.times(4, 1, 1000), 4, Rows.at(i, 20000));
            held.lays("20 by -1000 at " + i, x -> x.times(1, 1, -1000), 1, Rows.at(i, -20000));
            held.leaves("339 by 59 at " + i, -2, x -> x.times(4, 0, 59));
            held.leaves("339 by -59 at " + i, -2, x -> x.times(0, 0, -59));
            held.lays("339 by 58 at " + i, x -> x.times(4, 0, 58), 4, Rows.at(i, 19662));
            held.leaves("20000 by 2 at " + i, -2, x -> x.times(4, 2, 2));
            held.leaves("20000 by 1000 at " + i, -2, x -> x.times(4, 2, 1000));
            held.leaves("21 by 1000 at " + i, -2, x -> x.times(4, 3, 1000));
            held.lays("20000 by 0 at " + i, x -> x.times(4, 2, 0), 4);
            held.lays("20000 by -1 at " + i, x -> x.times(2, 2, -1), 2, Rows.at(i, -20000));
        }
    }

    private static void timesRefused() {
        UNITS.eighth("times's to", NONE, (x, v) -> x.times(v, 1, 2));
        UNITS.eighth("times's x", NONE, (x, v) -> x.times(1, v, 2));
        UNITS.ranges("times's n", -1000, 1000, NONE, (x, v) -> x.times(1, 2, v));
        Stage far = Stage.units(DUE).lay(0, 20000);
        far.leaves("NONE ahead of -2: n", NONE, x -> x.times(0, 0, 1001));
        far.leaves("NONE ahead of -2: n below", NONE, x -> x.times(0, 0, -1001));
        far.leaves("NONE ahead of -2: a slot", NONE, x -> x.times(8, 0, 2));
    }

    private static void turnAtTheEnds() {
        Stage by = Stage.units(DUE).lay(0, 200).lay(1, 200).lay(2, 6).lay(3, 6667).lay(4, 20).lay(5, 202);
        for (int how = 0; how < 2; how++) {
            int turn = how;
            by.lays("20000 by turn " + how, x -> x.turn(0, 0, 1, turn), 0, 20000);
            by.leaves("20001 by turn " + how, -2, x -> x.turn(0, 3, 2, turn));
        }
        for (int how = 2; how < 4; how++) {
            int turn = how;
            by.lays("10 by 100 by 10 by turn " + how, x -> x.turn(4, 0, 4, turn), 4, 20000);
            by.leaves("10 by 101 by 10 by turn " + how, -2, x -> x.turn(4, 5, 4, turn));
        }
    }

    /** u x is 10,000 or 10,001 alone, (u x) u and (u x) u' are spread over four parts. */
    private static void turnOnTheWay() {
        Stage can = Stage.units(DUE).lay(0, 1, 1, 1, 1).lay(1, 10000, -10000, -10000, -10000);
        can.lays("u x is 10000", x -> x.turn(1, 1, 0, 0), 1, 20000);
        can.lays("(u x) u", x -> x.turn(1, 1, 0, 2), 1, 10000, 10000, 10000, 10000);
        can.lays("(u x) u'", x -> x.turn(0, 1, 0, 3), 0, 10000, -10000, -10000, -10000);
        Stage beyond = Stage.units(DUE).lay(0, 1, 1, 1, 1).lay(1, 10001, -10001, -10001, -10001);
        beyond.leaves("u x is 10001", -2, x -> x.turn(1, 1, 0, 0));
        beyond.leaves("(u x) u on the way", -2, x -> x.turn(1, 1, 0, 2));
        beyond.leaves("(u x) u' on the way", -2, x -> x.turn(0, 1, 0, 3));
    }

    private static void turnWithQuarters() {
        Stage half = Stage.units(DUE).lay(0, 1).lay(1, 2).lay(2, 1, 1, 1, 1);
        half.lays("1/2 1", x -> x.turn(3, 1, 0, 0), 3, 1);
        half.leaves("1/2 1/2", -2, x -> x.turn(3, 0, 0, 0));
        half.leaves("1/2 by 1/2", -2, x -> x.turn(0, 0, 0, 1));
        half.leaves("(1/2 1) 1/2: the last product", -2, x -> x.turn(3, 1, 0, 2));
        half.leaves("(1/2 1) 1/2': the last product", -2, x -> x.turn(3, 1, 0, 3));
        half.leaves("(u 1/2) u' would be 1/2 again", -2, x -> x.turn(3, 0, 2, 3));
    }

    private static void turnRefused() {
        UNITS.eighth("turn's to", NONE, (x, v) -> x.turn(v, 1, 2, 0));
        UNITS.eighth("turn's x", NONE, (x, v) -> x.turn(3, v, 2, 1));
        UNITS.eighth("turn's u", NONE, (x, v) -> x.turn(3, 1, v, 2));
        UNITS.ranges("turn's how", 0, 3, NONE, (x, v) -> x.turn(3, 1, 2, v));
        Stage half = Stage.units(DUE).lay(0, 1);
        half.leaves("NONE ahead of -2: how", NONE, x -> x.turn(0, 0, 0, 4));
        half.leaves("NONE ahead of -2: a slot", NONE, x -> x.turn(8, 0, 0, 0));
    }

    private static void chainAtTheEnds() {
        Stage tens = Stage.units(DUE).lay(0, 20).lay(1, 2).lay(2, 22);
        tens.lays("one slot", x -> x.chain(7, 1, 1, 0, 0), 7, 20);
        tens.lays("10 four times", x -> x.chain(7, 1, 4, 0, 0), 7, 20000);
        tens.leaves("10 five times", -2, x -> x.chain(7, 1, 5, 0, 0));
        tens.leaves("10 six times", -2, x -> x.chain(1, 1, 6, 0, 1));
        tens.leaves("10 10 10 11", -2, x -> x.chain(7, 1, 4, 2 * 512, 1));
        tens.lays("six slots", x -> x.chain(7, 1, 6, 8 + 8 * 8 * 8 * 8, 1), 7, 20000);
        // The row's seventh place and what lies above isn't asked.
        tens.lays("the greatest row", x -> x.chain(0, 1, 1, Integer.MAX_VALUE - 7, 0), 0, 20);
        UNITS.lays("a slot of the row is laid", x -> x.chain(1, 0, 3, 1 + 8, 1), 1, -2);
    }

    /** 10,000 by 2 is beyond, by 1/2 ahead of it is not; 1/2 by 1/2 has quarters, by 2 ahead of it has none. */
    private static void chainOnTheWay() {
        Stage held = Stage.units(DUE).lay(0, 20000).lay(1, 4).lay(2, 1).lay(3, 1);
        for (int how = 0; how < 2; how++) {
            int turn = how;
            held.leaves("by 2, then by 1/2", -2, x -> x.chain(0, 0, 2, 1 + 8 * 2, turn));
            held.lays("by 1/2, then by 2", x -> x.chain(4, 0, 2, 2 + 8, turn), 4, 20000);
            held.leaves("1/2 by 1/2, then by 2", -2, x -> x.chain(3, 3, 2, 2 + 8, turn));
            held.lays("1/2 by 2, then by 1/2", x -> x.chain(4, 3, 2, 1 + 8 * 2, turn), 4, 1);
        }
    }

    private static void chainOfOtherTurns() {
        Stage held = Stage.units(DUE).lay(0, 1, 1, 1, 1).lay(1, 10001, -10001, -10001, -10001).lay(2, 200).lay(3, 20);
        for (int how = 2; how < 4; how++) {
            int turn = how;
            held.leaves("u x is beyond", -2, x -> x.chain(1, 1, 1, 0, turn));
            held.lays("10 by 100 by 10", x -> x.chain(4, 2, 1, 3, turn), 4, 20000);
            held.leaves("10 by 100 by 10, and again", -2, x -> x.chain(4, 2, 2, 3 + 8 * 3, turn));
        }
    }

    private static void chainRefused() {
        UNITS.eighth("chain's to", NONE, (x, v) -> x.chain(v, 1, 2, 3, 0));
        UNITS.eighth("chain's x", NONE, (x, v) -> x.chain(1, v, 2, 3, 1));
        UNITS.ranges("chain's many", 1, 6, NONE, (x, v) -> x.chain(1, 2, v, 3, 2));
        UNITS.takes("chain's row", NONE, (x, v) -> x.chain(1, 2, 6, v, 3), 0, 7, 8, Integer.MAX_VALUE);
        UNITS.leaves("a row below 0", NONE, x -> x.chain(1, 2, 6, -1, 3));
        UNITS.leaves("the least row", NONE, x -> x.chain(1, 2, 1, Integer.MIN_VALUE, 3));
        UNITS.ranges("chain's how", 0, 3, NONE, (x, v) -> x.chain(1, 2, 3, 4, v));
        Stage half = Stage.units(DUE).lay(0, 1);
        half.leaves("-2", -2, x -> x.chain(0, 0, 1, 0, 0));
        half.leaves("NONE ahead of -2: many", NONE, x -> x.chain(0, 0, 7, 0, 0));
        half.leaves("NONE ahead of -2: how", NONE, x -> x.chain(0, 0, 1, 0, 4));
        half.leaves("NONE ahead of -2: a slot", NONE, x -> x.chain(8, 0, 1, 0, 0));
    }

    private static void powerAtTheEnds() {
        Stage held = Stage.units(DUE).lay(0, 20).lay(1).lay(2, 1).lay(3, 20000, -20000).lay(4, 1, 1, 1, 1);
        held.lays("10 by 4", x -> x.power(7, 0, 4), 7, 20000);
        held.leaves("10 by 5", -2, x -> x.power(0, 0, 5));
        held.lays("0 by 0 is 1", x -> x.power(1, 1, 0), 1, 2);
        held.lays("0 by 60", x -> x.power(7, 1, 60), 7);
        held.lays("1/2 by 0", x -> x.power(2, 2, 0), 2, 2);
        held.lays("1/2 by 1", x -> x.power(7, 2, 1), 7, 1);
        held.leaves("1/2 by 2", -2, x -> x.power(7, 2, 2));
        held.leaves("1/2 by 60", -2, x -> x.power(7, 2, 60));
        held.lays("a great one by 1", x -> x.power(7, 3, 1), 7, 20000, -20000);
        held.leaves("a great one by 2", -2, x -> x.power(7, 3, 2));
        held.lays("a sixth root by 59", x -> x.power(7, 4, 59), 7, 1, -1, -1, -1);
        held.lays("a sixth root by 60", x -> x.power(4, 4, 60), 4, 2);
    }

    private static void powerRefused() {
        UNITS.eighth("power's to", NONE, (x, v) -> x.power(v, 1, 2));
        UNITS.eighth("power's x", NONE, (x, v) -> x.power(1, v, 2));
        UNITS.ranges("power's n", 0, 60, NONE, (x, v) -> x.power(1, 2, v));
        Stage far = Stage.units(DUE).lay(0, 20000);
        far.leaves("NONE ahead of -2: n", NONE, x -> x.power(0, 0, 61));
        far.leaves("NONE ahead of -2: a slot", NONE, x -> x.power(8, 0, 2));
    }

    /** E(1), E(2), E(4): the associator is twice the product; 73 by 137 is 10,001. */
    private static void associatorAtTheEnds() {
        Stage can = Stage.units(DUE).lay(1, Rows.at(1, 200)).lay(4, Rows.at(4, 100)).lay(5, Rows.at(4, -100));
        can.lays("20000", x -> x.associator(1, 1, 2, 4), 1, Rows.at(7, 20000));
        can.lays("-20000", x -> x.associator(4, 1, 2, 5), 4, Rows.at(7, -20000));
        Stage beyond = Stage.units(DUE).lay(1, Rows.at(1, 146)).lay(4, Rows.at(4, 137)).lay(5, Rows.at(4, -137));
        beyond.leaves("20002", -2, x -> x.associator(1, 1, 2, 4));
        beyond.leaves("-20002", -2, x -> x.associator(4, 1, 2, 5));
    }

    /** The associator of these is 0, but one of its four products is beyond, or has quarters. */
    private static void associatorOnTheWay() {
        Stage held = Stage.units(DUE).lay(0, 20000).lay(1, 4).lay(2, 1).lay(3, 2).lay(4, 202).lay(5, 200);
        held.leaves("x y is beyond", -2, x -> x.associator(0, 0, 1, 2));
        held.leaves("y z is beyond", -2, x -> x.associator(0, 2, 1, 0));
        held.lays("neither is", x -> x.associator(0, 2, 0, 3), 0);
        held.leaves("x y z is beyond", -2, x -> x.associator(0, 0, 3, 1));
        held.lays("100 by 100 is not beyond", x -> x.associator(4, 5, 5, 3), 4);
        held.leaves("100 by 101 is", -2, x -> x.associator(4, 5, 4, 3));
        held.leaves("x y has quarters", -2, x -> x.associator(2, 2, 2, 1));
        held.leaves("y z has quarters", -2, x -> x.associator(2, 1, 2, 2));
        held.leaves("x y z has quarters", -2, x -> x.associator(2, 2, 3, 2));
    }

    private static void associatorRefused() {
        UNITS.eighth("associator's to", NONE, (x, v) -> x.associator(v, 1, 2, 4));
        UNITS.eighth("associator's x", NONE, (x, v) -> x.associator(3, v, 2, 4));
        UNITS.eighth("associator's y", NONE, (x, v) -> x.associator(3, 1, v, 4));
        UNITS.eighth("associator's z", NONE, (x, v) -> x.associator(3, 1, 2, v));
        Stage half = Stage.units(DUE).lay(0, 1);
        half.leaves("NONE ahead of -2", NONE, x -> x.associator(8, 0, 0, 0));
        half.leaves("NONE ahead of -2: z", NONE, x -> x.associator(0, 0, 0, 8));
    }

    private static void commutatorAtTheEnds() {
        Stage can = Stage.units(DUE).lay(1, Rows.at(1, 200)).lay(2, Rows.at(2, 100));
        can.lays("20000", x -> x.commutator(1, 1, 2), 1, Rows.at(3, 20000));
        can.lays("-20000", x -> x.commutator(1, 2, 1), 1, Rows.at(3, -20000));
        Stage beyond = Stage.units(DUE).lay(1, Rows.at(1, 146)).lay(2, Rows.at(2, 137));
        beyond.leaves("20002", -2, x -> x.commutator(1, 1, 2));
        beyond.leaves("-20002", -2, x -> x.commutator(2, 2, 1));
    }

    /** The commutator of these is 0. */
    private static void commutatorOnTheWay() {
        Stage held = Stage.units(DUE).lay(0, 200).lay(1, 202).lay(2, 1).lay(3, 4);
        held.lays("100 by 100", x -> x.commutator(0, 0, 0), 0);
        held.leaves("100 by 101", -2, x -> x.commutator(0, 0, 1));
        held.leaves("1/2 by 1/2", -2, x -> x.commutator(2, 2, 2));
        held.lays("1/2 by 2", x -> x.commutator(2, 2, 3), 2);
    }

    private static void commutatorRefused() {
        UNITS.eighth("commutator's to", NONE, (x, v) -> x.commutator(v, 1, 2));
        UNITS.eighth("commutator's x", NONE, (x, v) -> x.commutator(3, v, 2));
        UNITS.eighth("commutator's y", NONE, (x, v) -> x.commutator(3, 1, v));
        Stage.units(DUE).lay(0, 1).leaves("NONE ahead of -2", NONE, x -> x.commutator(-1, 0, 0));
    }
}
