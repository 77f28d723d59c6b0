/** The bounds of promises 20, 51 and 52: ways of rows of two to six, laws whose products CANNOT BE. */
public final class RowsBoundsTest {
    private static final int NONE = EightParts.NONE;
    private static final int[] WAYS = {0, 1, 1, 2, 5, 14, 42};
    private static final Due DUE = new Due();
    private static final Stage UNITS = Stage.units(DUE);
    /** 10,000, 2 and 1/2 in a row: of two ways the second one is beyond. */
    private static final int ROW = 0 + 8 + 2 * 64;

    public static void main(String[] args) {
        bracketTakesEachWay();
        bracketRefused();
        bracketAtTheEnds();
        bracketWithQuarters();
        bracketNoneAheadOfCannotBe();
        bracketedOfOneNumber();
        bracketedRefused();
        bracketedWhereOneCannotBe();
        lawsAtTheEndOfEachProduct();
        lawsWithQuarters();
        lawsRefused();
        DUE.end();
    }

    /** The row's slots in each of its bracketings stand in their places from the left on. */
    private static void bracketTakesEachWay() {
        for (int many = 2; many <= 6; many++) {
            int length = many;
            int row = 1 + 8 * 2 + 64 * 4 + 512 * 1 + 4096 * 2 + 32768 * 4;
            UNITS.ranges("bracket's k of " + many, 0, WAYS[many] - 1, NONE, (x, v) -> x.bracket(3, length, row, v));
        }
        UNITS.lays("the one way of two", x -> x.bracket(1, 2, 1 + 8 * 2, 0), 1, 0, 0, 0, 2);
        UNITS.lays("the first way of three", x -> x.bracket(7, 3, 1 + 8 * 2 + 64 * 4, 0), 7, 0, 0, 0, 0, 0, 0, 0, -2);
        UNITS.lays("the last way of three", x -> x.bracket(7, 3, 1 + 8 * 2 + 64 * 4, 1), 7, 0, 0, 0, 0, 0, 0, 0, 2);
    }

    private static void bracketRefused() {
        UNITS.eighth("bracket's to", NONE, (x, v) -> x.bracket(v, 3, 8, 0));
        UNITS.ranges("bracket's many", 2, 6, NONE, (x, v) -> x.bracket(1, v, 8, 0));
        UNITS.takes("bracket's row", NONE, (x, v) -> x.bracket(1, 6, v, 41), 0, 7, 8, Integer.MAX_VALUE);
        UNITS.leaves("a row below 0", NONE, x -> x.bracket(1, 2, -1, 0));
        UNITS.leaves("the least row", NONE, x -> x.bracket(1, 6, Integer.MIN_VALUE, 0));
        UNITS.lays("what lies above two slots isn't asked", x -> x.bracket(7, 2, 1 + 8 * 2 + 64 * 7, 0), 7, 0, 0, 0, 2);
        UNITS.lays("what lies above six slots isn't asked", x -> x.bracket(7, 6, 1 << 18, 0), 7, 2);
    }

    private static void bracketAtTheEnds() {
        Stage held = Stage.units(DUE).lay(0, 20000).lay(1, 4).lay(2, 1).lay(3, 200).lay(4, 6).lay(5, 6667);
        held.lays("10000 (2 1/2)", x -> x.bracket(7, 3, ROW, 0), 7, 20000);
        held.leaves("(10000 2) 1/2", -2, x -> x.bracket(7, 3, ROW, 1));
        held.lays("100 100", x -> x.bracket(3, 2, 3 + 8 * 3, 0), 3, 20000);
        held.leaves("3 by 6667/2", -2, x -> x.bracket(5, 2, 4 + 8 * 5, 0));
    }

    private static void bracketWithQuarters() {
        Stage held = Stage.units(DUE).lay(0, 4).lay(1, 1).lay(2, 1).lay(3, 2);
        held.lays("(2 1/2) 1/2", x -> x.bracket(7, 3, ROW, 1), 7, 1);
        held.leaves("2 (1/2 1/2)", -2, x -> x.bracket(7, 3, ROW, 0));
        held.leaves("1/2 1/2", -2, x -> x.bracket(1, 2, 1 + 8 * 2, 0));
        // Of six the quarters stand at the row's end: each way in which these two come together ahead cannot be.
        int row = 3 + 8 * 3 + 64 * 3 + 512 * 0 + 4096 * 1 + 32768 * 2;
        held.leaves("the first way of six", -2, x -> x.bracket(7, 6, row, 0));
        held.lays("the last way of six", x -> x.bracket(7, 6, row, 41), 7, 1);
    }

    private static void bracketNoneAheadOfCannotBe() {
        Stage held = Stage.units(DUE).lay(0, 1);
        held.leaves("it cannot be", -2, x -> x.bracket(0, 2, 0, 0));
        held.leaves("NONE ahead of -2: k", NONE, x -> x.bracket(0, 2, 0, 1));
        held.leaves("NONE ahead of -2: k below 0", NONE, x -> x.bracket(0, 2, 0, -1));
        held.leaves("NONE ahead of -2: a slot", NONE, x -> x.bracket(8, 2, 0, 0));
        held.leaves("NONE ahead of -2: many", NONE, x -> x.bracket(0, 7, 0, 0));
    }

    private static void bracketedOfOneNumber() {
        for (int many = 2; many <= 6; many++) {
            int length = many;
            UNITS.leaves("1 " + many + " times", 1, x -> x.bracketed(length, 0));
            UNITS.leaves("E(1) " + many + " times", 1, x -> x.bracketed(length, 37449));
        }
        Stage held = Stage.units(DUE).lay(0);
        held.leaves("0 six times", 1, x -> x.bracketed(6, 0));
        held.leaves("two of three", 2, x -> x.bracketed(3, 1 + 8 * 2 + 64 * 4));
    }

    private static void bracketedRefused() {
        UNITS.ranges("bracketed's many", 2, 6, NONE, (x, v) -> x.bracketed(v, 8));
        UNITS.takes("bracketed's row", NONE, (x, v) -> x.bracketed(6, v), 0, 7, 8, Integer.MAX_VALUE);
        UNITS.leaves("a row below 0", NONE, x -> x.bracketed(2, -1));
        UNITS.leaves("the least row", NONE, x -> x.bracketed(6, Integer.MIN_VALUE));
        UNITS.leaves("what lies above isn't asked", 1, x -> x.bracketed(2, 1 + 8 * 2 + 64 * 4));
    }

    private static void bracketedWhereOneCannotBe() {
        Stage held = Stage.units(DUE).lay(0, 20000).lay(1, 4).lay(2, 1).lay(3, 2).lay(4, 200).lay(5, 6).lay(6, 6667);
        held.leaves("one of two ways", -2, x -> x.bracketed(3, ROW));
        held.leaves("the first of two ways", -2, x -> x.bracketed(3, 1 + 8 * 2 + 64 * 2));
        held.leaves("20000", 1, x -> x.bracketed(2, 4 + 8 * 4));
        held.leaves("20001", -2, x -> x.bracketed(2, 5 + 8 * 6));
        held.leaves("the last two of six", -2, x -> x.bracketed(6, 3 + 8 * 3 + 64 * 3 + 512 * 3 + 4096 * 0 + 32768 * 1));
        held.leaves("NONE ahead of -2: many", NONE, x -> x.bracketed(7, 0));
        held.leaves("NONE ahead of -2: row", NONE, x -> x.bracketed(2, -1));
    }

    private static void laws(String call, int want, int x, int y, int z) {
        Stage.units(DUE).lay(0, x).lay(1, y).lay(2, z).leaves(call, want, p -> p.laws(0, 1, 2));
    }

    /** All three are single ones, so that all laws hold where all of it can be. */
    private static void lawsAtTheEndOfEachProduct() {
        laws("x x is 10000", 255, 200, 2, 2);
        laws("x x is 101 by 101", -2, 202, 2, 2);
        laws("x x y is 10 by 10 by 100", 255, 20, 200, 2);
        laws("x x y is 10 by 10 by 101", -2, 20, 202, 2);
        laws("x y is 10000", 255, 2, 20000, 2);
        laws("y y isn't asked", 255, 2, 20000, 0);
        laws("y z is 20000", -2, 2, 20000, 4);
        laws("x y is beyond, x y z z is not", -2, 4, 20000, 1);
        laws("z z y is 10 by 10 by 100", 255, 2, 200, 20);
        laws("z z y is 10 by 10 by 101", -2, 2, 202, 20);
        laws("z z x is 10000", 255, 200, 2, 20);
        laws("z z x is 11 by 11 by 100", -2, 200, 2, 22);
        laws("z z x y is 10 by 10 by 10 by 10", 255, 20, 20, 20);
        laws("z z x y is 10 by 10 by 10 by 11", -2, 20, 22, 20);
        laws("z z isn't asked: 100 by 100", 255, 2, 2, 200);
        laws("z z x is 101 by 101", -2, 2, 2, 202);
        laws("below, too", 255, -200, 2, -20);
    }

    private static void lawsWithQuarters() {
        laws("x x has quarters", -2, 1, 4, 4);
        laws("y y isn't asked", 255, 4, 1, 4);
        laws("z z isn't asked", 255, 4, 4, 1);
        laws("x y has quarters", -2, 2, 1, 1);
        laws("(z x) z has quarters", -2, 2, 2, 1);
        laws("all are 0", 255, 0, 0, 0);
    }

    private static void lawsRefused() {
        UNITS.eighth("laws's x", NONE, (x, v) -> x.laws(v, 1, 2));
        UNITS.eighth("laws's y", NONE, (x, v) -> x.laws(1, v, 2));
        UNITS.eighth("laws's z", NONE, (x, v) -> x.laws(1, 2, v));
        Stage held = Stage.units(DUE).lay(0, 1);
        held.leaves("it cannot be", -2, x -> x.laws(0, 0, 0));
        held.leaves("NONE ahead of -2: x", NONE, x -> x.laws(8, 0, 0));
        held.leaves("NONE ahead of -2: y", NONE, x -> x.laws(0, -1, 0));
        held.leaves("NONE ahead of -2: z", NONE, x -> x.laws(0, 0, 8));
    }
}
