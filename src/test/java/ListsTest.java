/** Promises 32 to 42: many .. sides. */
public final class ListsTest {
    private static final Due DUE = new Due();

    public static void main(String[] args) {
        many();
        listedRiseAndKnowTheirPlace();
        place();
        divisors();
        divisor();
        inner();
        angles();
        alike();
        alikeMany();
        commuting();
        sides();
        DUE.end();
    }

    private static void many() {
        EightParts x = new EightParts();
        for (int order = 0; order < 8; order++) {
            x.order(order);
            DUE.is("many(0)", x.many(0), 1);
            DUE.is("many(1)", x.many(1), order == 0 ? 16 : 240);
            DUE.is("many(2)", x.many(2), order == 0 ? 112 : 2160);
            DUE.is("many(3)", x.many(3), order == 0 ? 448 : 6720);
        }
        DUE.is("many(-1)", x.many(-1), -1);
        DUE.is("many(4)", x.many(4), -1);
    }

    private static void listedRiseAndKnowTheirPlace() {
        int[] steps = {1, 7, 97, 331};
        int[] many = {1, 240, 2160, 6720};
        int[] manyPlain = {1, 16, 112, 448};
        for (int order = 0; order < 8; order++) {
            for (int norm = 0; norm < 4; norm++) {
                int end = order == 0 ? manyPlain[norm] : many[norm];
                for (int k = 0; k < end; k += order == 0 ? 3 : steps[norm]) {
                    listedAt(order, norm, k, end);
                }
            }
        }
        listedPart();
    }

    private static void listedAt(int order, int norm, int k, int end) {
        EightParts x = new EightParts();
        x.order(order);
        x.listed(0, norm, k);
        DUE.is("norm", x.norm(0), 4 * norm);
        DUE.is("whole", x.whole(0), 1);
        DUE.is("place", x.place(0), k);
        // With the other sign it lies as far from the end.
        x.times(1, 0, -1);
        DUE.is("place of the other sign", x.place(1), end - 1 - k);
        DUE.is("a next one", x.listed(2, norm, k + 1), k + 1 < end);
        DUE.is("rising", k + 1 == end || rises(x, 0, 2), true);
    }

    private static boolean rises(EightParts x, int slot, int next) {
        for (int i = 0; i < 8; i++) {
            if (x.part(slot, i) != x.part(next, i)) {
                return x.part(slot, i) < x.part(next, i);
            }
        }
        return false;
    }

    private static void listedPart() {
        EightParts x = new EightParts();
        for (int k = 0; k < 25; k++) {
            x.listed(0, 2, 80 * k);
            for (int part = 0; part < 8; part++) {
                DUE.is("listedPart(2, " + 80 * k, x.listedPart(2, 80 * k, part), x.part(0, part));
            }
        }
        DUE.is("listedPart(0, 0, 7)", x.listedPart(0, 0, 7), 0);
        DUE.is("listedPart(0, 1, 7)", x.listedPart(0, 1, 7), -30000);
        DUE.is("listedPart(4, 0, 0)", x.listedPart(4, 0, 0), -30000);
        DUE.is("listedPart(-1, 0, 0)", x.listedPart(-1, 0, 0), -30000);
        DUE.is("listedPart(1, -1, 0)", x.listedPart(1, -1, 0), -30000);
        DUE.is("listedPart(1, 0, -1)", x.listedPart(1, 0, -1), -30000);
        DUE.is("listedPart(1, 239, 0)", x.listedPart(1, 239, 0), 2);
        x.order(0);
        DUE.is("listedPart(1, 239, 0)", x.listedPart(1, 239, 0), -30000);
        DUE.is("listedPart(1, 15, 0)", x.listedPart(1, 15, 0), 2);
    }

    private static void place() {
        EightParts x = new EightParts();
        x.one(0, 0);
        DUE.is("1 is the last unit", x.place(0), 239);
        x.order(0);
        DUE.is("1 is the last unit", x.place(0), 15);
        x.order(1);
        Due.lay(x, 0, 1);
        DUE.is("not whole", x.place(0), -2);
        Due.lay(x, 0, 4);
        DUE.is("norm 4", x.place(0), -2);
        Due.lay(x, 0, 20000, 20000, 20000, 20000, 20000, 20000, 20000, 20000);
        DUE.is("a great norm", x.place(0), -2);
        Due.lay(x, 0, 1, 1, 1, 0, 1);
        DUE.is("a whole norm, not whole", x.place(0), -2);
        x.order(7);
        DUE.is("whole in order 7", x.place(0) >= 0, true);
        DUE.is("place(8)", x.place(8), -1);
        DUE.is("place(-1)", x.place(-1), -1);
    }

    private static void divisors() {
        EightParts x = new EightParts();
        x.one(0, 3);
        DUE.is("units divide all", x.divisors(0, 1, true), 240);
        DUE.is("a unit has no others", x.divisors(0, 2, false), 0);
        // 2 has every number of norm 2 on both sides, and so 6 has each of norm 3.
        Due.lay(x, 0, 4);
        DUE.is("of 2", x.divisors(0, 2, true), 2160);
        DUE.is("of 2", x.divisors(0, 2, false), 2160);
        DUE.is("of 2", x.divisors(0, 3, false), 0);
        Due.lay(x, 0, 0, 0, 12);
        DUE.is("of 6 E(2)", x.divisors(0, 3, true), 6720);
        // A quotient may be as great as it comes.
        Due.lay(x, 0, 20000, 20000, 20000, 20000, 20000, 20000, 20000, 20000);
        DUE.is("of a great one", x.divisors(0, 1, true), 240);
        DUE.is("of a great one", x.divisors(0, 2, false), 2160);
        Due.lay(x, 0, 1);
        DUE.is("of what isn't whole", x.divisors(0, 1, true), 0);
        DUE.is("norm 0", x.divisors(0, 0, true), -1);
        DUE.is("norm 4", x.divisors(0, 4, true), -1);
        DUE.is("slot 8", x.divisors(8, 1, true), -1);
        DUE.is("slot -1", x.divisors(-1, 1, false), -1);
        sidesOfDivisors(x);
    }

    /** x is built as a product: its left factor divides it on the left, its right one on the right. */
    private static void sidesOfDivisors(EightParts x) {
        x.listed(1, 2, 100);
        x.listed(2, 3, 200);
        x.product(0, 1, 2);
        DUE.is("the left one", hasDivisor(x, 2, false, 100), true);
        DUE.is("the right one", hasDivisor(x, 3, true, 200), true);
    }

    private static boolean hasDivisor(EightParts x, int norm, boolean right, int number) {
        for (int k = 0; k < 300; k++) {
            int found = x.divisor(0, norm, right, k);
            if (found == number) {
                return true;
            }
            if (found == -2) {
                return false;
            }
        }
        return false;
    }

    private static void divisor() {
        EightParts x = new EightParts();
        Due.lay(x, 0, 2, 2);
        int many = x.divisors(0, 2, true);
        DUE.is("divisors(0, 2, true)", many, 240);
        int before = -1;
        for (int k = 0; k < many; k += 13) {
            int found = x.divisor(0, 2, true, k);
            DUE.is("rising", found > before, true);
            before = found;
        }
        DUE.is("not so many", x.divisor(0, 2, true, many), -2);
        DUE.is("not so many", x.divisor(0, 2, true, Integer.MAX_VALUE), -2);
        DUE.is("none at all", x.divisor(0, 3, false, 0), -2);
        DUE.is("k -1", x.divisor(0, 2, true, -1), -1);
        DUE.is("norm 0", x.divisor(0, 0, true, 0), -1);
        DUE.is("norm 4", x.divisor(0, 4, true, 0), -1);
        DUE.is("slot 8", x.divisor(8, 1, true, 0), -1);
    }

    private static void inner() {
        EightParts x = new EightParts();
        Due.lay(x, 0, 1, 2, 3, 4, 5, 6, 7, 8);
        Due.lay(x, 1, 8, -7, 6, -5, 4, -3, 2, -1);
        DUE.is("inner(0, 1)", x.inner(0, 1), 8 - 14 + 18 - 20 + 20 - 18 + 14 - 8);
        DUE.is("inner(0, 0)", x.inner(0, 0), 204);
        Due.lay(x, 0, 20000, 20000, 20000, 20000, 20000, 20000, 20000, 20000);
        x.times(1, 0, -1);
        DUE.is("held above", x.inner(0, 0), 2000000000);
        DUE.is("held below", x.inner(0, 1), -2000000000);
        DUE.is("slot 8", x.inner(8, 0), -1);
        DUE.is("slot -1", x.inner(0, -1), -1);
    }

    private static void angles() {
        EightParts x = new EightParts();
        x.one(0, 5);
        int[] due = {1, 56, 126, 56, 1};
        for (int v = -4; v <= 4; v += 2) {
            DUE.is("angles(0, 1, " + v + ")", x.angles(0, 1, v), due[(v + 4) / 2]);
        }
        DUE.is("angles(0, 1, 3)", x.angles(0, 1, 3), 0);
        DUE.is("angles(0, 0, 0)", x.angles(0, 0, 0), 1);
        DUE.is("angles(0, 0, 1)", x.angles(0, 0, 1), 0);
        int all = 0;
        for (int v = -12; v <= 12; v++) {
            all += x.angles(0, 3, v);
        }
        DUE.is("all of norm 3", all, 6720);
        DUE.is("angles(0, 1, MAX)", x.angles(0, 1, Integer.MAX_VALUE), 0);
        DUE.is("norm 4", x.angles(0, 4, 0), -1);
        DUE.is("norm -1", x.angles(0, -1, 0), -1);
        DUE.is("slot 8", x.angles(8, 1, 0), -1);
    }

    private static void alike() {
        EightParts x = new EightParts();
        Due.lay(x, 0, 20000, 1);
        Due.lay(x, 1, -20000, 1);
        DUE.is("40000 by 1", x.alike(0, 1, 1), 1);
        DUE.is("40000 by 1000", x.alike(0, 1, 1000), 1);
        DUE.is("40000 by 999", x.alike(0, 1, 999), 0);
        // Doubled, 40000 by 625 is 64; by 64 it is 625, which is odd alone.
        DUE.is("40000 by 625", x.alike(0, 1, 625), 1);
        DUE.is("40000 by 64", x.alike(0, 1, 64), 0);
        Due.lay(x, 2, 3, 3, -3, 3);
        Due.lay(x, 3, 0, 0, 0, 0);
        DUE.is("by 3", x.alike(2, 3, 3), 1);
        DUE.is("by 3", x.alike(3, 2, 3), 1);
        DUE.is("by 2", x.alike(2, 3, 2), 0);
        x.order(4);
        DUE.is("in another order", x.alike(2, 3, 3), 0);
        DUE.is("a number and itself", x.alike(2, 2, 7), 1);
        DUE.is("n 0", x.alike(2, 2, 0), -1);
        DUE.is("n -1", x.alike(2, 2, -1), -1);
        DUE.is("n 1001", x.alike(2, 2, 1001), -1);
        DUE.is("slot 8", x.alike(8, 2, 1), -1);
        DUE.is("slot -1", x.alike(2, -1, 1), -1);
    }

    private static void alikeMany() {
        EightParts x = new EightParts();
        x.one(0, 6);
        DUE.is("by 1", x.alikeMany(0, 1, 1), 240);
        DUE.is("by 2: itself and the other sign", x.alikeMany(0, 1, 2), 2);
        DUE.is("by 3", x.alikeMany(0, 1, 3), 1);
        DUE.is("by 1000", x.alikeMany(0, 1, 1000), 1);
        DUE.is("norm 0 by 2", x.alikeMany(0, 0, 2), 0);
        x.listed(1, 2, 1000);
        DUE.is("norm 2 by 2", x.alikeMany(1, 2, 2), 16);
        DUE.is("n 0", x.alikeMany(0, 1, 0), -1);
        DUE.is("n 1001", x.alikeMany(0, 1, 1001), -1);
        DUE.is("norm 4", x.alikeMany(0, 4, 1), -1);
        DUE.is("norm -1", x.alikeMany(0, -1, 1), -1);
        DUE.is("slot -1", x.alikeMany(-1, 1, 1), -1);
    }

    private static void commuting() {
        EightParts x = new EightParts();
        Due.lay(x, 0, 6);
        DUE.is("3 with all", x.commuting(0, 3), 6720);
        x.one(0, 6);
        DUE.is("E(6): 1, -1 and itself", x.commuting(0, 1), 4);
        DUE.is("0", x.commuting(0, 0), 1);
        Due.lay(x, 1, 1);
        // 1/2 commutes with all, but its product with what has odd parts cannot be.
        DUE.is("1/2", x.commuting(1, 1), 16);
        Due.lay(x, 1, 20000);
        DUE.is("10000 with units", x.commuting(1, 1), 240);
        // What has 3/2 comes beyond: 14 sets of four odd parts, each with four places for it and 16 signs.
        DUE.is("10000 with norm 2", x.commuting(1, 2), 2160);
        DUE.is("10000 with norm 3", x.commuting(1, 3), 6720 - 14 * 4 * 16);
        DUE.is("norm 4", x.commuting(0, 4), -1);
        DUE.is("norm -1", x.commuting(0, -1), -1);
        DUE.is("slot 8", x.commuting(8, 1), -1);
    }

    private static void sides() {
        EightParts x = new EightParts();
        x.one(0, 1);
        x.one(1, 3);
        DUE.is("u E(1) is E(3)", x.sides(0, 1, false), 1);
        DUE.is("E(1) u is E(3)", x.sides(0, 1, true), 1);
        DUE.is("u 0 is 0", x.sides(7, 7, true), 240);
        DUE.is("u E(1) is 0", x.sides(0, 7, true), 0);
        Due.lay(x, 2, 1);
        Due.lay(x, 3, 0, 1);
        DUE.is("u 1/2 is E(1)/2", x.sides(2, 3, false), 1);
        // u = (1 + E(1) + E(2) + E(3))/2 : only on its own side.
        Due.lay(x, 4, 1, 1, 1, 1);
        x.one(5, 4);
        x.product(6, 4, 5);
        DUE.is("u E(4)", x.sides(5, 6, false), 1);
        DUE.is("E(4) u", x.sides(5, 6, true), 1);
        x.order(0);
        DUE.is("u E(4) in order 0", x.sides(5, 6, false), 0);
        DUE.is("slot 8", x.sides(8, 0, true), -1);
        DUE.is("slot -1", x.sides(0, -1, false), -1);
    }
}
