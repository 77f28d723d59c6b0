/**
 * The bounds of promises 14, 18, 19 and 53: the NEAREST of several, a quotient, its product and a rest at the
 * last part that can be and the first one that cannot, norms that are not whole, sixty rests at most.
 */
public final class DividedBoundsTest {
    private static final int NONE = EightParts.NONE;
    private static final Due DUE = new Due();
    private static final Stage UNITS = Stage.units(DUE);
    private static final int[] FULL = Rows.all(20000);
    private static final int[] ZERO = Rows.zero();
    private static final int[] REST_X = {-19700, 11032, 5910, -1182, 19700, 19700, 300, 1182};
    private static final int[] REST_Y = {-19700, -3152, 19700, -19700, -17730, 7880, 19700, -18124};
    private static final int[] SIXTY_X = {-10670, -20000, -11342, -11546, 15696, -13760, 20000, 20000};
    private static final int[] SIXTY_Y = {-9304, 19267, -19985, -446, -265, -19722, 19734, 19083};

    public static void main(String[] args) {
        nearestOfTwoIsTheFirst();
        nearestOfTwoOddSets();
        nearestOfSixteen();
        nearestByTheGreatestNumber();
        nearestAtTheEnds();
        nearestBeyond();
        nearestOfTwoInOrder0();
        nearestRefused();
        divideByZero();
        divideByNoWholeNorm();
        divideWithQuarters();
        quotientAtTheEnds();
        productOfQuotientAtTheEnds();
        restAtTheEnds();
        bothToOneSlot();
        divideRefused();
        lastOfZeros();
        lastWithoutRests();
        lastOfSixty();
        lastRefused();
        restsWithoutAny();
        restsUntilZero();
        restsUntilNoWholeNorm();
        restsUntilOneCannotBe();
        restsSixtyAtMost();
        lastNormAtTheEnd();
        shareIsCut();
        restsRefused();
        DUE.end();
    }

    private static void nearestOfTwoIsTheFirst() {
        for (int i = 0; i < 8; i++) {
            Stage held = Stage.units(DUE).lay(0, Rows.at(i, 1)).lay(1, Rows.at(i, -1)).lay(2, Rows.at(i, 2)).lay(3, Rows.at(i, -3));
            held.lays("0 and 1 by 1/2 at " + i, x -> x.nearest(0, 0, 1), 0);
            held.lays("-1 and 0 by -1/2 at " + i, x -> x.nearest(7, 1, 1), 7, Rows.at(i, -2));
            held.lays("1 at " + i, x -> x.nearest(7, 2, 1), 7, Rows.at(i, 2));
            held.lays("-2 and -1 by -3/2 at " + i, x -> x.nearest(3, 3, 1), 3, Rows.at(i, -4));
        }
    }

    private static void nearestByTwo(int order, int[] row, int... due) {
        Stage held = Stage.units(DUE).order(order).lay(0, row);
        held.lays("in order " + order, x -> x.nearest(7, 0, 2), 7, due);
    }

    /** By 2, four doubled 1s at an ODD SET: 0 and the number that has it are as near. */
    private static void nearestOfTwoOddSets() {
        nearestByTwo(1, new int[] {1, 1, 1, 1});
        nearestByTwo(1, new int[] {-1, 1, 1, 1}, -1, 1, 1, 1);
        nearestByTwo(1, new int[] {1, -1, -1, -1});
        nearestByTwo(1, new int[] {-1, -1, -1, -1}, -1, -1, -1, -1);
        nearestByTwo(1, new int[] {0, 0, 0, 0, 1, -1, -1, -1});
        nearestByTwo(1, new int[] {0, 0, 0, 0, -1, 1, 1, 1}, 0, 0, 0, 0, -1, 1, 1, 1);
        nearestByTwo(4, new int[] {0, 1, -1, -1, -1});
        nearestByTwo(4, new int[] {0, -1, 1, 1, 1}, 0, -1, 1, 1, 1);
        // Both have halves at 0 and 1, one of them at 2 and 3, the other one at 4 and 5.
        nearestByTwo(1, new int[] {2, 2, 1, 1, 1, 1}, 1, 1, 0, 0, 1, 1);
        nearestByTwo(1, new int[] {2, 2, -1, 1, 1, 1}, 1, 1, -1, 1);
        nearestByTwo(1, new int[] {2, 2, -1, 1, -1, 1}, 1, 1, -1, 1);
        // A little more, and one is nearer.
        nearestByTwo(1, new int[] {1, 1, 1, 2}, 1, 1, 1, 1);
        nearestByTwo(1, new int[] {-1, 1, 1, 0});
    }

    /** By 2, two doubled 2s: sixteen are as near, with both parts 0 or 2, or with halves at both and at two more. */
    private static void nearestOfSixteen() {
        nearestByTwo(1, new int[] {2, 2});
        nearestByTwo(1, new int[] {2, -2}, 0, -2);
        nearestByTwo(1, new int[] {-2, 2}, -2);
        nearestByTwo(1, new int[] {-2, -2}, -2, -2);
        nearestByTwo(1, new int[] {0, 0, 2, 2}, -1, -1, 1, 1);
        nearestByTwo(1, new int[] {0, 0, -2, -2}, -1, -1, -1, -1);
        nearestByTwo(1, new int[] {0, 0, 0, 0, 0, 0, 2, -2}, -1, -1, 0, 0, 0, 0, 1, -1);
        nearestByTwo(0, new int[] {0, 0, 2, 2});
    }

    private static void nearestByTheGreatestNumber() {
        for (int i = 0; i < 8; i++) {
            Stage held = Stage.units(DUE).lay(0, Rows.at(i, 999)).lay(1, Rows.at(i, 1000)).lay(2, Rows.at(i, 1001))
                .lay(3, Rows.at(i, -999)).lay(4, Rows.at(i, -1000)).lay(5, Rows.at(i, -1001)).lay(6, Rows.at(i, 20000));
            held.lays("999 by 1000", x -> x.nearest(7, 0, 1000), 7);
            held.lays("1000 by 1000", x -> x.nearest(7, 1, 1000), 7);
            held.lays("1001 by 1000", x -> x.nearest(7, 2, 1000), 7, Rows.at(i, 2));
            held.lays("-999 by 1000", x -> x.nearest(7, 3, 1000), 7);
            held.lays("-1000 by 1000", x -> x.nearest(7, 4, 1000), 7, Rows.at(i, -2));
            held.lays("-1001 by 1000", x -> x.nearest(7, 5, 1000), 7, Rows.at(i, -2));
            held.lays("20000 by 1000", x -> x.nearest(7, 6, 1000), 7, Rows.at(i, 20));
            held.lays("1001 by 999", x -> x.nearest(7, 2, 999), 7, Rows.at(i, 2));
        }
    }

    private static void nearestAtTheEnds() {
        int[] low = new int[8];
        int[] odd = new int[8];
        for (int i = 0; i < 8; i++) {
            low[i] = -20000;
            odd[i] = i % 2 == 0 ? 19999 : -19999;
        }
        for (int order = 0; order < 8; order++) {
            Stage held = Stage.units(DUE).order(order).lay(0, FULL).lay(1, low).lay(2, odd);
            held.lays("the greatest in order " + order, x -> x.nearest(7, 0, 1), 7, FULL);
            held.lays("the least in order " + order, x -> x.nearest(7, 1, 1), 7, low);
            if (order > 0) {
                held.lays("eight odd ones in order " + order, x -> x.nearest(7, 2, 1), 7, odd);
            }
        }
    }

    /** Seven odd parts ask for an odd eighth: -20,001 and -19,999 are as near, 19,999 and 20,001, too. */
    private static void nearestBeyond() {
        int[] ones = {1, 1, 1, 1, 1, 1, 1, 1};
        for (int i = 0; i < 8; i++) {
            Stage held = Stage.units(DUE).lay(0, Rows.with(ones, i, -20000)).lay(1, Rows.with(ones, i, 20000))
                .lay(2, Rows.with(ones, i, -19998));
            held.leaves("-20001 is first, at " + i, -2, x -> x.nearest(0, 0, 1));
            held.lays("19999 is first, at " + i, x -> x.nearest(1, 1, 1), 1, Rows.with(ones, i, 19999));
            held.lays("-19999 is first, at " + i, x -> x.nearest(7, 2, 1), 7, Rows.with(ones, i, -19999));
            held.leaves("NONE ahead of -2, at " + i, NONE, x -> x.nearest(8, 0, 1));
        }
    }

    private static void nearestOfTwoInOrder0() {
        Stage held = Stage.units(DUE).order(0).lay(0, 1, -1, 3, -3, 19999, -19999, 5, -5);
        held.lays("the lesser of each two", x -> x.nearest(0, 0, 1), 0, 0, -2, 2, -4, 19998, -20000, 4, -6);
    }

    private static void nearestRefused() {
        UNITS.eighth("nearest's to", NONE, (x, v) -> x.nearest(v, 1, 2));
        UNITS.eighth("nearest's x", NONE, (x, v) -> x.nearest(1, v, 2));
        UNITS.ranges("nearest's n", 1, 1000, NONE, (x, v) -> x.nearest(1, 2, v));
    }

    private static void divideByZero() {
        Stage held = Stage.units(DUE).lay(0).lay(1, FULL);
        held.leaves("1 by 0", -2, x -> x.divide(2, 3, 4, 0));
        held.leaves("0 by 0", -2, x -> x.divide(2, 3, 0, 0));
        held.leaves("a great one by 0", -2, x -> x.divide(1, 0, 1, 0));
        held.laysBoth("0 by a great one", x -> x.divide(4, 5, 0, 1), 4, ZERO, 5);
    }

    private static void divideByNoWholeNorm() {
        Stage held = Stage.units(DUE).lay(0, 4).lay(1, 1).lay(2, 1, 1).lay(3, 1, 1, 1).lay(4, 1, 1, 1, 0, 1)
            .lay(5, 2, 1).lay(6, 20000, 1);
        held.leaves("a norm of 1/4", -2, x -> x.divide(6, 7, 0, 1));
        held.leaves("a norm of 1/2", -2, x -> x.divide(6, 7, 0, 2));
        held.leaves("a norm of 3/4", -2, x -> x.divide(6, 7, 0, 3));
        held.leaves("a norm of 5/4", -2, x -> x.divide(6, 7, 0, 5));
        held.leaves("a great norm and 1/4", -2, x -> x.divide(6, 7, 0, 6));
        held.laysBoth("a norm of 1 of what is not WHOLE", x -> x.divide(7, 6, 4, 4), 7, Rows.at(0, 2), 6);
    }

    private static void divideWithQuarters() {
        Stage held = Stage.units(DUE).lay(0, 1).lay(1, 1, 1, 1, 1).lay(2, 4);
        held.leaves("1/2 by a number with halves", -2, x -> x.divide(6, 7, 0, 1));
        held.laysBoth("1/2 by 2", x -> x.divide(6, 7, 0, 2), 6, ZERO, 7, 1);
    }

    /** Great by great: x times y's MIRROR may be beyond. By a unit u 10,000 u and 10,001 u have small parts. */
    private static void quotientAtTheEnds() {
        Stage held = Stage.units(DUE).lay(0, 1, 1, 1, 1).lay(1, 10000, 10000, 10000, 10000)
            .lay(2, 10001, 10001, 10001, 10001).lay(3, -10000, -10000, -10000, -10000)
            .lay(4, -10001, -10001, -10001, -10001).lay(5, FULL);
        held.laysBoth("the greatest by itself", x -> x.divide(6, 7, 5, 5), 6, Rows.at(0, 2), 7);
        held.laysBoth("10000", x -> x.divide(6, 7, 1, 0), 6, Rows.at(0, 20000), 7);
        held.laysBoth("-10000", x -> x.divide(1, 0, 3, 0), 1, Rows.at(0, -20000), 0);
        held.leaves("10001", -2, x -> x.divide(6, 7, 2, 0));
        held.leaves("-10001", -2, x -> x.divide(2, 0, 4, 0));
    }

    /** 9,999 by 20 is nearly 500, by 73 nearly 137: 73 times 137 is 10,001, 9,999 by 33 is 303. */
    private static void productOfQuotientAtTheEnds() {
        Stage held = Stage.units(DUE).lay(0, 19998).lay(1, 40).lay(2, 146).lay(3, -19998).lay(4, 66).lay(5, 20000);
        held.laysBoth("9999 by 20", x -> x.divide(6, 7, 0, 1), 6, Rows.at(0, 1000), 7, -2);
        held.laysBoth("-9999 by 20", x -> x.divide(3, 1, 3, 1), 3, Rows.at(0, -1000), 1, 2);
        held.leaves("9999 by 73", -2, x -> x.divide(6, 7, 0, 2));
        held.leaves("-9999 by 73", -2, x -> x.divide(3, 2, 3, 2));
        held.laysBoth("9999 by 33", x -> x.divide(6, 7, 0, 4), 6, Rows.at(0, 606), 7);
        held.laysBoth("10000 by 20", x -> x.divide(6, 7, 5, 1), 6, Rows.at(0, 1000), 7);
    }

    /** E(6) is nearest to the quotient; the rest's part 6 is 19,700 more than that of x, or as much less. */
    private static void restAtTheEnds() {
        int[] rest = {0, -7092, -11820, -9062, 0, 0, 20000, 4334};
        Stage can = Stage.units(DUE).lay(0, REST_X).lay(1, REST_Y).lay(2, Rows.negative(REST_X));
        can.laysBoth("20000", x -> x.divide(0, 1, 0, 1), 0, Rows.at(6, 2), 1, rest);
        can.laysBoth("-20000", x -> x.divide(6, 7, 2, 1), 6, Rows.at(6, -2), 7, Rows.negative(rest));
        Stage beyond = Stage.units(DUE).lay(0, Rows.with(REST_X, 6, 302)).lay(1, REST_Y)
            .lay(2, Rows.negative(Rows.with(REST_X, 6, 302)));
        beyond.leaves("20002", -2, x -> x.divide(0, 1, 0, 1));
        beyond.leaves("-20002", -2, x -> x.divide(7, 7, 2, 1));
        beyond.answers("the quotient's product can be", 1, x -> x.product(7, 6, 1));
    }

    private static void bothToOneSlot() {
        Stage held = Stage.units(DUE).lay(0, 14).lay(1, 6);
        held.lays("7 by 3", x -> x.divide(7, 7, 0, 1), 7, 2);
        held.lays("7 by 3 where 7 is", x -> x.divide(0, 0, 0, 1), 0, 2);
        held.lays("7 by 3 where 3 is", x -> x.divide(1, 1, 0, 1), 1, 2);
        held.lays("7 by 7", x -> x.divide(0, 0, 0, 0), 0);
        held.laysBoth("each where the other is", x -> x.divide(1, 0, 0, 1), 1, Rows.at(0, 4), 0, 2);
    }

    private static void divideRefused() {
        UNITS.eighth("divide's quotient", NONE, (x, v) -> x.divide(v, 1, 2, 3));
        UNITS.eighth("divide's rest", NONE, (x, v) -> x.divide(1, v, 2, 3));
        UNITS.eighth("divide's x", NONE, (x, v) -> x.divide(1, 2, v, 3));
        UNITS.eighth("divide's y", NONE, (x, v) -> x.divide(1, 2, 3, v));
        Stage held = Stage.units(DUE).lay(0);
        held.leaves("NONE ahead of -2: quotient", NONE, x -> x.divide(8, 1, 2, 0));
        held.leaves("NONE ahead of -2: rest", NONE, x -> x.divide(1, -1, 2, 0));
        held.leaves("NONE ahead of -2: x", NONE, x -> x.divide(1, 2, 8, 0));
    }

    private static void lastOfZeros() {
        Stage held = Stage.units(DUE).lay(0).lay(1);
        held.leaves("0 and 0", -2, x -> x.last(2, 0, 1));
        held.leaves("0 and itself", -2, x -> x.last(2, 0, 0));
        held.lays("0 and E(3)", x -> x.last(2, 0, 3), 2, Rows.at(3, 2));
        held.lays("E(3) and 0", x -> x.last(0, 3, 1), 0, Rows.at(3, 2));
    }

    private static void lastWithoutRests() {
        Stage held = Stage.units(DUE).lay(0, 12).lay(1, 1).lay(2, 1, 1, 1, 1).lay(3, 19998).lay(4, 146).lay(5);
        held.lays("a norm of 1/4", x -> x.last(7, 0, 1), 7, 1);
        held.lays("quarters", x -> x.last(7, 1, 2), 7, 1, 1, 1, 1);
        held.lays("a product beyond", x -> x.last(3, 3, 4), 3, 146);
        held.lays("0 by a norm of 1/4", x -> x.last(7, 5, 1), 7, 1);
        held.lays("a rest of 0: what divided", x -> x.last(7, 0, 2), 7, 1, 1, 1, 1);
    }

    /** Each is the other's rest, on and on: the sixtieth rest is y. */
    private static void lastOfSixty() {
        Stage held = inOrder0(SIXTY_X, SIXTY_Y);
        held.lays("the sixtieth rest", x -> x.last(7, 0, 1), 7, SIXTY_Y);
        held.lays("from the other one on", x -> x.last(0, 1, 0), 0, SIXTY_X);
    }

    private static void lastRefused() {
        UNITS.eighth("last's to", NONE, (x, v) -> x.last(v, 1, 2));
        UNITS.eighth("last's x", NONE, (x, v) -> x.last(1, v, 2));
        UNITS.eighth("last's y", NONE, (x, v) -> x.last(1, 2, v));
        Stage held = Stage.units(DUE).lay(0);
        held.leaves("NONE ahead of -2", NONE, x -> x.last(8, 0, 0));
    }

    private static Stage inOrder0(int[] x, int[] y) {
        return Stage.units(DUE).order(0).lay(0, x).lay(1, y);
    }

    /** What rests() tells of slots 0 and 1. */
    private static void rests(Stage held, String call, int many, int lastNorm, int share) {
        held.leaves("how many rests: " + call, many, x -> x.rests(0, 1, 0));
        held.leaves("the last one's norm: " + call, lastNorm, x -> x.rests(0, 1, 1));
        held.leaves("the greatest share: " + call, share, x -> x.rests(0, 1, 2));
    }

    private static void restsWithoutAny() {
        rests(Stage.units(DUE).lay(0, 20).lay(1), "by 0", 0, NONE, 0);
        rests(Stage.units(DUE).lay(0).lay(1), "0 by 0", 0, NONE, 0);
        rests(Stage.units(DUE).lay(0, 20).lay(1, 1), "by 1/2", 0, NONE, 0);
        rests(Stage.units(DUE).lay(0, 20).lay(1, 1, 1), "by a norm of 1/2", 0, NONE, 0);
        rests(Stage.units(DUE).lay(0, 1).lay(1, 1, 1, 1, 1), "quarters", 0, NONE, 0);
        rests(Stage.units(DUE).lay(0, 10001, 10001, 10001, 10001).lay(1, 1, 1, 1, 1), "a quotient beyond", 0, NONE, 0);
        rests(Stage.units(DUE).lay(0, 19998).lay(1, 146), "a product beyond", 0, NONE, 0);
        rests(Stage.units(DUE).lay(0, Rows.with(REST_X, 6, 302)).lay(1, REST_Y), "a rest beyond", 0, NONE, 0);
    }

    private static void restsUntilZero() {
        rests(Stage.units(DUE).lay(0, 20).lay(1, 20), "10 by 10", 1, 0, 0);
        rests(Stage.units(DUE).lay(0).lay(1, 20), "0 by 10", 1, 0, 0);
        rests(Stage.units(DUE).lay(0, 26).lay(1, 16), "13 by 8", 3, 0, 14);
    }

    private static void restsUntilNoWholeNorm() {
        rests(Stage.units(DUE).lay(0, 21).lay(1, 20), "21/2 by 10", 1, 1, 0);
        rests(Stage.units(DUE).lay(0, 1).lay(1, 2), "1/2 by 1", 1, 1, 25);
    }

    /** 9,999 by 73 cannot be, as above: 73 by 9,999, whose rest is 73, ends there. */
    private static void restsUntilOneCannotBe() {
        Stage held = Stage.units(DUE).lay(0, 146).lay(1, 19998);
        rests(held, "73 by 9999", 1, 146 * 146, 0);
        held.lays("the last of 73 and 9999", x -> x.last(7, 0, 1), 7, 146);
    }

    private static void restsSixtyAtMost() {
        rests(inOrder0(SIXTY_X, SIXTY_Y), "sixty", 60, 2000000000, 100);
        rests(inOrder0(SIXTY_Y, SIXTY_X), "sixty from the other one on", 60, 2000000000, 100);
    }

    private static void lastNormAtTheEnd() {
        int[] less = {19962, -5490, 19946, -255, -19985, 19519, -93, 19826};
        int[] beside = {11266, 20000, 10800, 20000, 12488, 10762, 20000, -20000};
        rests(inOrder0(beside, less), "four less", 60, 1999999996, 105);
        int[] more = {-19576, 7738, -19982, 19540, -19904, -19482, 22, 306};
        int[] besideMore = {-10379, -13271, -20000, 15348, 13233, -12515, 20000, 17476};
        rests(inOrder0(besideMore, more), "four more", 60, 2000000000, 102);
        int[] oneLess = {147, 506, -10746, 19138, -20000, -19005, 19263, -19640};
        int[] byLess = {-18132, 18874, 18660, 18094, -18068, 18720, 18812, -19992};
        rests(inOrder0(oneLess, byLess), "one less", 1, 1999999999, 71);
        int[] oneMore = {19980, 19980, 278, -19068, 19922, -12, -8516, 19197};
        int[] byMore = {-19712, -19260, 18070, 18960, -19008, 18778, 18170, 18058};
        rests(inOrder0(oneMore, byMore), "one more", 1, 2000000000, 71);
    }

    /** In order 0 halves of all eight units are nearest to 0: twice the norm of what divides is left. */
    private static void shareIsCut() {
        rests(Stage.units(DUE).lay(0, 22).lay(1, 20), "1 by 100", 2, 0, 1);
        rests(Stage.units(DUE).lay(0, 24).lay(1, 22), "1 by 121", 2, 0, 0);
        rests(Stage.units(DUE).lay(0, 26).lay(1, 18), "16 by 81", 3, 0, 19);
        int[] ones = {2, 2, 2, 2, 2, 2, 2, 2};
        rests(inOrder0(ones, Rows.at(0, 4)), "8 by 4", 60, 16, 200);
    }

    private static void restsRefused() {
        UNITS.eighth("rests's x", NONE, (x, v) -> x.rests(v, 1, 0));
        UNITS.eighth("rests's y", NONE, (x, v) -> x.rests(1, v, 0));
        UNITS.ranges("rests's what", 0, 2, NONE, (x, v) -> x.rests(1, 2, v));
    }
}
