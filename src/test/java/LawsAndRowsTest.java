/** Promises 51 to 53: laws, bracketed, rests. */
public final class LawsAndRowsTest {
    private static final Due DUE = new Due();

    public static void main(String[] args) {
        laws();
        lawsWhatCannotBe();
        bracketed();
        rests();
        restsInAllOrders();
        DUE.end();
    }

    private static void laws() {
        EightParts x = new EightParts();
        DUE.is("of 0", x.laws(0, 1, 2), 255);
        x.one(0, 1);
        x.one(1, 2);
        x.one(2, 4);
        DUE.is("neither 1 nor 2", x.laws(0, 1, 2), 252);
        x.one(3, 3);
        DUE.is("no commutation", x.laws(0, 1, 3), 253);
        x.one(4, 0);
        DUE.is("all", x.laws(0, 4, 2), 255);
        DUE.is("x and x commute, x x z associate", x.laws(0, 0, 2), 255);
        Due.lay(x, 5, 1, 1, 1, 1);
        Due.lay(x, 6, 1, 1, 0, 0, 1, 1);
        DUE.is("halves of one order", x.laws(5, 6, 2) & 252, 252);
        DUE.is("slot 8", x.laws(8, 0, 0), -1);
        DUE.is("slot -1", x.laws(0, -1, 0), -1);
        DUE.is("slot 8", x.laws(0, 0, 8), -1);
    }

    private static void lawsWhatCannotBe() {
        EightParts x = new EightParts();
        Due.lay(x, 0, 1);
        Due.lay(x, 1, 4);
        DUE.is("1/2 1/2 has quarters", x.laws(0, 1, 1), -2);
        DUE.is("only x with itself is asked", x.laws(1, 1, 0), 255);
        // z stands twice in (z (x y)) z, too.
        Due.lay(x, 2, 2);
        DUE.is("z z with halves", x.laws(2, 2, 0), -2);
        Due.lay(x, 3, 60);
        DUE.is("30 30 30 is too much", x.laws(3, 3, 3), -2);
        Due.lay(x, 3, 20);
        DUE.is("10 10 10 10", x.laws(3, 3, 3), 255);
        Due.lay(x, 3, 22);
        DUE.is("11 11 11 11", x.laws(3, 3, 3), -2);
        Due.lay(x, 4, 200);
        DUE.is("z alone is great: z z x y", x.laws(2, 2, 4), 255);
        Due.lay(x, 4, 202);
        DUE.is("z alone is too great", x.laws(2, 2, 4), -2);
    }

    private static void bracketed() {
        EightParts x = new EightParts();
        x.one(0, 1);
        x.one(1, 2);
        x.one(2, 4);
        x.one(3, 7);
        DUE.is("of three", x.bracketed(3, 0 + 8 + 128), 2);
        DUE.is("of units: two signs", x.bracketed(6, 0 + 8 + 128 + 0 + 4096 + 2 * 32768), 2);
        DUE.is("of two", x.bracketed(2, 8), 1);
        DUE.is("above isn't asked", x.bracketed(2, Integer.MAX_VALUE), 1);
        Due.lay(x, 4, 2, 2);
        Due.lay(x, 5, 2, 0, 2);
        Due.lay(x, 6, 2, 0, 0, 0, 2);
        DUE.is("(1 + E(1))(1 + E(2))(1 + E(4))", x.bracketed(3, 4 + 8 * 5 + 64 * 6), 2);
        DUE.is("one number alone", x.bracketed(6, 4 * 37449), 1);
        Due.lay(x, 7, 1);
        DUE.is("1/2 1/2", x.bracketed(2, 63), -2);
        DUE.is("many 1", x.bracketed(1, 0), -1);
        DUE.is("many 7", x.bracketed(7, 0), -1);
        DUE.is("row -1", x.bracketed(2, -1), -1);
        DUE.is("NONE ahead of -2", x.bracketed(7, 63), -1);
    }

    private static void rests() {
        EightParts x = new EightParts();
        Due.lay(x, 0, 26);
        Due.lay(x, 1, 16);
        // 13 by 8: 2, -3; 8 by -3: -3, -1; -3 by -1: 3, 0.
        DUE.is("how many", x.rests(0, 1, 0), 3);
        DUE.is("the last", x.rests(0, 1, 1), 0);
        DUE.is("the greatest share: 9 by 64", x.rests(0, 1, 2), 14);
        DUE.is("by 0", x.rests(0, 7, 0), 0);
        DUE.is("by 0", x.rests(0, 7, 1), -1);
        DUE.is("by 0", x.rests(0, 7, 2), 0);
        Due.lay(x, 2, 1);
        DUE.is("by 1/2", x.rests(0, 2, 0), 0);
        DUE.is("what 3", x.rests(0, 1, 3), -1);
        DUE.is("what -1", x.rests(0, 1, -1), -1);
        DUE.is("slot 8", x.rests(8, 1, 0), -1);
        DUE.is("slot -1", x.rests(0, -1, 0), -1);
        // 10000 by 23 cannot be: its product is too great.
        Due.lay(x, 3, 20000);
        Due.lay(x, 4, 46);
        DUE.is("10000 by 23", x.rests(3, 4, 0), 0);
        DUE.is("the last of 10000 and 23", x.last(5, 3, 4), 1);
        DUE.is("part(5, 0)", x.part(5, 0), 46);
        restsOfGreatOnes(x);
    }

    /** In order 0 0 is nearest to the quotient of each by the other, so that each is the other's rest, on and on. */
    private static void restsOfGreatOnes(EightParts x) {
        x.order(0);
        Due.lay(x, 0, 20000, 7362, 20000, 20000, 20000, 20000, -20000, 8992);
        Due.lay(x, 1, 20000, 20000, -9014, 12084, 20000, 20000, 20000, 19804);
        x.divide(6, 7, 0, 1);
        DUE.is("the quotient is 0", x.norm(6), 0);
        DUE.is("the rest is the first one", x.same(7, 0), 1);
        DUE.is("sixty times at most", x.rests(0, 1, 0), 60);
        DUE.is("too great to be told", x.rests(0, 1, 1), 2000000000);
        DUE.is("more than what divided it", x.rests(0, 1, 2), 103);
        x.last(2, 0, 1);
        DUE.is("the sixtieth is the second one", x.same(2, 1), 1);
    }

    /** In orders 1 .. 7 a rest has at most half the norm of what divides, in order 0 at most twice it. */
    private static void restsInAllOrders() {
        EightParts x = new EightParts();
        for (int order = 0; order < 8; order++) {
            x.order(order);
            for (int n = 0; n < 6; n++) {
                x.listed(0, 3, (n * 1777 + order) % x.many(3));
                x.times(0, 0, 17 + n);
                x.listed(1, 2, (n * 333 + 5 * order) % x.many(2));
                x.times(1, 1, 5 + n);
                DUE.is("a share", x.rests(0, 1, 2) <= (order == 0 ? 200 : 50), true);
            }
        }
    }
}
