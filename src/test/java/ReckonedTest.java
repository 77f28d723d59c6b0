/** Promises 7 to 20: sum .. bracket. */
public final class ReckonedTest {
    private static final Due DUE = new Due();

    public static void main(String[] args) {
        sumAndLess();
        product();
        productOfAllPairs();
        mirror();
        times();
        turn();
        chain();
        last();
        power();
        associatorAndCommutator();
        nearest();
        nearestAtTheEdge();
        divide();
        divideWhatCannotBe();
        bracket();
        DUE.end();
    }

    private static void sumAndLess() {
        EightParts x = new EightParts();
        Due.lay(x, 0, 1, 2, 3, 4, 5, 6, 7, 20000);
        Due.lay(x, 1, 1, -2, 1, -4, 1, -6, 1, 0);
        DUE.is("sum(2, 0, 1)", x.sum(2, 0, 1), 1);
        DUE.parts("sum", x, 2, 2, 0, 4, 0, 6, 0, 8, 20000);
        DUE.is("less(3, 0, 1)", x.less(3, 0, 1), 1);
        DUE.parts("less", x, 3, 0, 4, 2, 8, 4, 12, 6, 20000);
        DUE.is("less(0, 0, 0)", x.less(0, 0, 0), 1);
        DUE.parts("less(0, 0, 0)", x, 0, 0, 0, 0, 0, 0, 0, 0, 0);
        x.put(1, 7, 1);
        DUE.is("sum(2, 2, 1)", x.sum(2, 2, 1), -2);
        DUE.parts("sum beyond", x, 2, 2, 0, 4, 0, 6, 0, 8, 20000);
        x.put(4, 7, -20000);
        DUE.is("less(4, 4, 1)", x.less(4, 4, 1), -2);
        DUE.is("part(4, 7)", x.part(4, 7), -20000);
        DUE.is("sum(8, 2, 1)", x.sum(8, 2, 1), -1);
        DUE.is("sum(2, -1, 1)", x.sum(2, -1, 1), -1);
        DUE.is("sum(2, 1, 8)", x.sum(2, 1, 8), -1);
        DUE.is("less(-1, 2, 1)", x.less(-1, 2, 1), -1);
        DUE.is("less(1, 2, 8)", x.less(1, 2, 8), -1);
    }

    private static void product() {
        EightParts x = new EightParts();
        // (1/2) times itself has a quarter; 1 and a half by 2 has none.
        Due.lay(x, 0, 1);
        DUE.is("product(1, 0, 0)", x.product(1, 0, 0), -2);
        Due.lay(x, 1, 6, 2);
        DUE.is("product(1, 1, 0)", x.product(1, 1, 0), 1);
        DUE.parts("product", x, 1, 3, 1, 0, 0, 0, 0, 0, 0);
        Due.lay(x, 2, 200);
        Due.lay(x, 3, 0, 200);
        DUE.is("product(4, 2, 3)", x.product(4, 2, 3), 1);
        DUE.is("part(4, 1)", x.part(4, 1), 20000);
        x.put(3, 1, 202);
        DUE.is("product(4, 2, 3)", x.product(4, 2, 3), -2);
        DUE.is("part(4, 1)", x.part(4, 1), 20000);
        Due.lay(x, 5, 20000, 20000, 20000, 20000, 20000, 20000, 20000, 20000);
        DUE.is("product(5, 5, 5)", x.product(5, 5, 5), -2);
        x.mirror(6, 0);
        DUE.is("product(0, 0, 6) with a quarter", x.product(0, 0, 6), -2);
        DUE.is("product(0, 0, 8)", x.product(0, 0, 8), -1);
        DUE.is("product(0, -1, 0)", x.product(0, -1, 0), -1);
        DUE.is("product(9, 0, 0)", x.product(9, 0, 0), -1);
    }

    /** The lines along which the rule of pairs gives a plus, worked by hand. */
    private static void productOfAllPairs() {
        EightParts x = new EightParts();
        for (int i = 0; i < 8; i++) {
            x.one(0, i);
            for (int k = 0; k < 8; k++) {
                x.one(1, k);
                x.product(2, 0, 1);
                x.product(3, 1, 0);
                DUE.is("norm of E(i) E(k)", x.norm(2), 4);
                int size = x.part(2, i ^ k);
                DUE.is("E(" + i + ") E(" + k + ") lies at i xor k", Math.abs(size), 2);
                boolean plain = i == 0 || k == 0 || i == k;
                DUE.is("E(" + k + ") E(" + i + ")", x.part(3, i ^ k), plain ? size : -size);
            }
        }
        int[][] rising = {{1, 2, 3}, {1, 4, 5}, {2, 4, 6}, {3, 4, 7}, {1, 7, 6}, {2, 5, 7}, {3, 6, 5}};
        for (int[] line : rising) {
            for (int turn = 0; turn < 3; turn++) {
                x.one(0, line[turn]);
                x.one(1, line[(turn + 1) % 3]);
                x.product(2, 0, 1);
                DUE.is("E(" + line[turn] + ") times the next", x.part(2, line[(turn + 2) % 3]), 2);
            }
        }
    }

    private static void mirror() {
        EightParts x = new EightParts();
        Due.lay(x, 0, 1, 2, -3, 4, -5, 6, -7, 20000);
        DUE.is("mirror(1, 0)", x.mirror(1, 0), 1);
        DUE.parts("mirror", x, 1, 1, -2, 3, -4, 5, -6, 7, -20000);
        DUE.is("mirror(0, 0)", x.mirror(0, 0), 1);
        DUE.is("same(0, 1)", x.same(0, 1), 1);
        DUE.is("mirror(8, 0)", x.mirror(8, 0), -1);
        DUE.is("mirror(0, -1)", x.mirror(0, -1), -1);
        // x times its mirror is its norm.
        Due.lay(x, 2, 2, 4, 6, 8, 2, 4, 6, 8);
        x.mirror(3, 2);
        x.product(4, 2, 3);
        DUE.parts("x times its mirror", x, 4, x.norm(2) / 2, 0, 0, 0, 0, 0, 0, 0);
    }

    private static void times() {
        EightParts x = new EightParts();
        Due.lay(x, 0, 20, -3);
        DUE.is("times(1, 0, 1000)", x.times(1, 0, 1000), 1);
        DUE.parts("times(1, 0, 1000)", x, 1, 20000, -3000, 0, 0, 0, 0, 0, 0);
        DUE.is("times(1, 0, -1000)", x.times(1, 0, -1000), 1);
        DUE.is("part(1, 0)", x.part(1, 0), -20000);
        DUE.is("times(1, 0, -1001)", x.times(1, 0, -1001), -1);
        DUE.is("times(1, 0, 1001)", x.times(1, 0, 1001), -1);
        x.put(0, 0, 21);
        DUE.is("times(1, 0, 1000)", x.times(1, 0, 1000), -2);
        DUE.is("part(1, 0)", x.part(1, 0), -20000);
        DUE.is("times(0, 0, 0)", x.times(0, 0, 0), 1);
        DUE.is("norm(0)", x.norm(0), 0);
        DUE.is("times(0, 8, 2000)", x.times(0, 8, 2000), -1);
        DUE.is("times(8, 0, 1)", x.times(8, 0, 1), -1);
    }

    private static void turn() {
        EightParts x = new EightParts();
        x.one(0, 1);
        x.one(1, 2);
        DUE.is("turn(2, 1, 0, 0)", x.turn(2, 1, 0, 0), 1);
        DUE.is("E(1) E(2)", x.part(2, 3), 2);
        DUE.is("turn(2, 1, 0, 1)", x.turn(2, 1, 0, 1), 1);
        DUE.is("E(2) E(1)", x.part(2, 3), -2);
        DUE.is("turn(2, 1, 0, 2)", x.turn(2, 1, 0, 2), 1);
        DUE.is("(E(1) E(2)) E(1)", x.part(2, 2), 2);
        DUE.is("turn(1, 1, 0, 3)", x.turn(1, 1, 0, 3), 1);
        DUE.is("(E(1) E(2)) E(1)'", x.part(1, 2), -2);
        DUE.is("turn(1, 1, 0, 4)", x.turn(1, 1, 0, 4), -1);
        DUE.is("turn(1, 1, 0, -1)", x.turn(1, 1, 0, -1), -1);
        DUE.is("turn(1, 1, 8, 0)", x.turn(1, 1, 8, 0), -1);
        DUE.is("turn(8, 1, 0, 0)", x.turn(8, 1, 0, 0), -1);
        DUE.is("turn(1, -1, 0, 0)", x.turn(1, -1, 0, 0), -1);
        // u x cannot be, though (u x) u' could: a product on the way.
        Due.lay(x, 3, 1);
        Due.lay(x, 4, 1, 1, 1, 1);
        DUE.is("turn(3, 3, 4, 3)", x.turn(3, 3, 4, 3), -2);
        Due.lay(x, 5, 20000);
        Due.lay(x, 6, 4);
        DUE.is("turn(5, 5, 6, 2)", x.turn(5, 5, 6, 2), -2);
        DUE.is("part(5, 0)", x.part(5, 0), 20000);
    }

    private static void chain() {
        EightParts x = new EightParts();
        x.one(0, 1);
        x.one(1, 2);
        x.one(2, 4);
        x.one(3, 0);
        // E(4) (E(2) (E(1) 1)) : E(2) E(1) = -E(3), E(4) E(3) = -E(7).
        DUE.is("chain(4, 3, 3, 0 1 2, 0)", x.chain(4, 3, 3, 0 + 8 + 128, 0), 1);
        DUE.is("part(4, 7)", x.part(4, 7), 2);
        // ((1 E(1)) E(2)) E(4) = E(3) E(4) = E(7).
        DUE.is("chain(4, 3, 3, 0 1 2, 1)", x.chain(4, 3, 3, 0 + 8 + 128, 1), 1);
        DUE.is("part(4, 7)", x.part(4, 7), 2);
        DUE.is("what lies above isn't asked", x.chain(4, 3, 1, 8 * 5, 1), 1);
        DUE.is("part(4, 1)", x.part(4, 1), 2);
        DUE.is("chain to itself", x.chain(0, 0, 6, 0, 1), 1);
        DUE.is("E(1) seven times", x.part(0, 1), -2);
        DUE.is("many 0", x.chain(4, 3, 0, 0, 0), -1);
        DUE.is("many 7", x.chain(4, 3, 7, 0, 0), -1);
        DUE.is("row below 0", x.chain(4, 3, 2, -8, 0), -1);
        DUE.is("how 4", x.chain(4, 3, 2, 0, 4), -1);
        DUE.is("how -1", x.chain(4, 3, 2, 0, -1), -1);
        DUE.is("no such slot", x.chain(4, 8, 2, 0, 0), -1);
        DUE.is("no such slot", x.chain(-1, 3, 2, 0, 0), -1);
        Due.lay(x, 5, 2000);
        Due.lay(x, 6, 30);
        DUE.is("beyond at the second", x.chain(6, 6, 2, 5 + 8 * 5, 0), -2);
        DUE.is("part(6, 0)", x.part(6, 0), 30);
    }

    private static void last() {
        EightParts x = new EightParts();
        DUE.is("all are 0", x.last(0, 1, 2), -2);
        Due.lay(x, 1, 12);
        DUE.is("x alone", x.last(0, 1, 2), 1);
        DUE.is("part(0, 0)", x.part(0, 0), 12);
        DUE.is("y alone", x.last(0, 2, 1), 1);
        DUE.is("part(0, 0)", x.part(0, 0), 12);
        Due.lay(x, 2, 20);
        DUE.is("10 and 6", x.last(0, 2, 1), 1);
        DUE.is("a size of 2", x.norm(0), 16);
        Due.lay(x, 3, 1);
        DUE.is("what divides has no whole norm: it is the last", x.last(0, 1, 3), 1);
        DUE.is("part(0, 0)", x.part(0, 0), 1);
        DUE.is("no such slot", x.last(8, 1, 3), -1);
        DUE.is("no such slot", x.last(0, -1, 3), -1);
        DUE.is("no such slot", x.last(0, 1, 8), -1);
    }

    private static void power() {
        EightParts x = new EightParts();
        Due.lay(x, 0, 1, 1, 1, 1);
        DUE.is("power(1, 0, 60)", x.power(1, 0, 60), 1);
        DUE.parts("a sixth root's 60th power", x, 1, 2, 0, 0, 0, 0, 0, 0, 0);
        DUE.is("power(1, 0, 1)", x.power(1, 0, 1), 1);
        DUE.is("same(0, 1)", x.same(0, 1), 1);
        DUE.is("power(1, 0, 3)", x.power(1, 0, 3), 1);
        DUE.is("part(1, 0)", x.part(1, 0), -2);
        Due.lay(x, 2, 1);
        DUE.is("power(3, 2, 0)", x.power(3, 2, 0), 1);
        DUE.parts("power 0", x, 3, 2, 0, 0, 0, 0, 0, 0, 0);
        DUE.is("power(3, 2, 1)", x.power(3, 2, 1), 1);
        DUE.is("part(3, 0)", x.part(3, 0), 1);
        DUE.is("power(3, 2, 2)", x.power(3, 2, 2), -2);
        DUE.is("part(3, 0)", x.part(3, 0), 1);
        Due.lay(x, 4, 4);
        DUE.is("power(4, 4, 13)", x.power(5, 4, 13), 1);
        DUE.is("2 to the 13", x.part(5, 0), 16384);
        DUE.is("power(5, 4, 14)", x.power(5, 4, 14), -2);
        DUE.is("power(5, 4, 61)", x.power(5, 4, 61), -1);
        DUE.is("power(5, 4, -1)", x.power(5, 4, -1), -1);
        DUE.is("power(8, 4, 1)", x.power(8, 4, 1), -1);
        DUE.is("power(5, 8, 1)", x.power(5, 8, 1), -1);
    }

    private static void associatorAndCommutator() {
        EightParts x = new EightParts();
        x.one(0, 1);
        x.one(1, 2);
        x.one(2, 4);
        DUE.is("associator(3, 0, 1, 2)", x.associator(3, 0, 1, 2), 1);
        DUE.parts("associator", x, 3, 0, 0, 0, 0, 0, 0, 0, 4);
        DUE.is("commutator(3, 1, 2)", x.commutator(3, 1, 2), 1);
        DUE.parts("commutator", x, 3, 0, 0, 0, 0, 0, 0, 4, 0);
        Due.lay(x, 4, 0, 150);
        Due.lay(x, 5, 0, 0, 150);
        // Each product has 11,250; their difference is too great.
        DUE.is("commutator beyond", x.commutator(3, 4, 5), -2);
        DUE.is("part(3, 6)", x.part(3, 6), 4);
        Due.lay(x, 6, 0, 0, 0, 0, 2);
        DUE.is("associator beyond", x.associator(3, 4, 5, 6), -2);
        DUE.is("a product on the way", x.associator(3, 6, 4, 4), 1);
        Due.lay(x, 7, 1);
        DUE.is("quarters", x.associator(3, 7, 7, 6), -2);
        DUE.is("quarters", x.commutator(3, 7, 7), -2);
        DUE.is("no such slot", x.associator(3, 0, 0, 8), -1);
        DUE.is("no such slot", x.associator(3, 0, 8, 0), -1);
        DUE.is("no such slot", x.associator(3, 8, 0, 0), -1);
        DUE.is("no such slot", x.associator(-1, 0, 0, 0), -1);
        DUE.is("no such slot", x.commutator(8, 0, 0), -1);
        DUE.is("no such slot", x.commutator(3, 0, -1), -1);
    }

    private static void nearest() {
        EightParts x = new EightParts();
        // Half of 1: 0 and 1 are as near as one another, and nothing of the order is nearer; 0 is first.
        Due.lay(x, 0, 1);
        DUE.is("nearest(1, 0, 1)", x.nearest(1, 0, 1), 1);
        DUE.parts("nearest to a half", x, 1, 0, 0, 0, 0, 0, 0, 0, 0);
        Due.lay(x, 0, -1);
        x.nearest(1, 0, 1);
        DUE.parts("nearest to minus a half", x, 1, -2, 0, 0, 0, 0, 0, 0, 0);
        Due.lay(x, 0, 1, 1, 1, 1);
        x.nearest(1, 0, 1);
        DUE.parts("itself", x, 1, 1, 1, 1, 1, 0, 0, 0, 0);
        x.order(4);
        x.nearest(1, 0, 1);
        // {0, 1, 2, 3} is not odd in order 4: of all that lie at a norm of 1/2 the first one.
        DUE.is("norm by 4 of what is missed", missed(x, 0, 1), 2);
        DUE.is("whole(1)", x.whole(1), 1);
        x.order(0);
        x.nearest(1, 0, 1);
        DUE.parts("in order 0 the lesser of each two", x, 1, 0, 0, 0, 0, 0, 0, 0, 0);
        x.order(1);
        Due.lay(x, 0, 20, -20, 7, -7);
        DUE.is("nearest(0, 0, 10)", x.nearest(0, 0, 10), 1);
        DUE.parts("2, -2, 0.7, -0.7 by doubled parts", x, 0, 2, -2, 0, 0, 0, 0, 0, 0);
        DUE.is("n 0", x.nearest(0, 0, 0), -1);
        DUE.is("n -1", x.nearest(0, 0, -1), -1);
        DUE.is("n 1001", x.nearest(0, 0, 1001), -1);
        DUE.is("n 1000", x.nearest(0, 0, 1000), 1);
        DUE.is("no such slot", x.nearest(8, 0, 1), -1);
        DUE.is("no such slot", x.nearest(0, -1, 1), -1);
    }

    private static long missed(EightParts x, int slot, int other) {
        long to = 0;
        for (int i = 0; i < 8; i++) {
            long d = x.part(slot, i) - x.part(other, i);
            to += d * d;
        }
        return to;
    }

    /** Seven odd parts ask for an odd eighth: of -20,001 and -19,999 the first is listed first, and cannot be. */
    private static void nearestAtTheEdge() {
        EightParts x = new EightParts();
        Due.lay(x, 0, -20000, 1, 1, 1, 1, 1, 1, 1);
        DUE.is("beyond", x.nearest(1, 0, 1), -2);
        DUE.parts("nothing happens", x, 1, 0, 0, 0, 0, 0, 0, 0, 0);
        x.put(0, 0, 20000);
        DUE.is("within", x.nearest(1, 0, 1), 1);
        DUE.parts("the lesser", x, 1, 19999, 1, 1, 1, 1, 1, 1, 1);
    }

    private static void divide() {
        EightParts x = new EightParts();
        Due.lay(x, 0, 14);
        Due.lay(x, 1, 6);
        DUE.is("7 by 3", x.divide(2, 3, 0, 1), 1);
        DUE.parts("quotient", x, 2, 4, 0, 0, 0, 0, 0, 0, 0);
        DUE.parts("rest", x, 3, 2, 0, 0, 0, 0, 0, 0, 0);
        DUE.is("both to one slot", x.divide(0, 0, 0, 1), 1);
        DUE.parts("the rest", x, 0, 2, 0, 0, 0, 0, 0, 0, 0);
        // q is to stand on the left of y: E(3) is E(1) E(2).
        x.one(4, 3);
        x.one(5, 2);
        DUE.is("E(3) by E(2)", x.divide(6, 7, 4, 5), 1);
        DUE.parts("E(1)", x, 6, 0, 2, 0, 0, 0, 0, 0, 0);
        DUE.is("norm(7)", x.norm(7), 0);
        DUE.is("into its own factors", x.divide(4, 5, 4, 5), 1);
        DUE.parts("quotient", x, 4, 0, 2, 0, 0, 0, 0, 0, 0);
        DUE.parts("rest", x, 5, 0, 0, 0, 0, 0, 0, 0, 0);
        for (int slot = 0; slot < 4; slot++) {
            int[] slots = {0, 1, 2, 3};
            slots[slot] = slot % 2 == 0 ? 8 : -1;
            DUE.is("no such slot", x.divide(slots[0], slots[1], slots[2], slots[3]), -1);
        }
        DUE.is("NONE ahead of -2", x.divide(8, 0, 0, 5), -1);
    }

    private static void divideWhatCannotBe() {
        EightParts x = new EightParts();
        Due.lay(x, 0, 14);
        DUE.is("by 0", x.divide(2, 3, 0, 1), -2);
        Due.lay(x, 1, 1);
        DUE.is("norm of a quarter", x.divide(2, 3, 0, 1), -2);
        Due.lay(x, 1, 1, 1);
        DUE.is("norm of a half", x.divide(2, 3, 0, 1), -2);
        // What divides need have a whole norm, but need not be whole itself.
        Due.lay(x, 1, 1, 1, 1, 0, 1);
        DUE.is("whole(1)", x.whole(1), 0);
        DUE.is("norm(1)", x.norm(1), 4);
        DUE.is("by what is not whole", x.divide(2, 3, 1, 1), 1);
        Due.lay(x, 4, 1);
        DUE.is("quarters in x times y's mirror", x.divide(2, 3, 4, 1), -2);
        // x times y's mirror may be as great as it comes: its quotient is small.
        Due.lay(x, 5, 20000);
        DUE.is("great by great", x.divide(2, 3, 5, 5), 1);
        DUE.parts("1", x, 2, 2, 0, 0, 0, 0, 0, 0, 0);
        Due.lay(x, 6, 20000, 20000, 20000, 20000, 20000, 20000, 20000, 20000);
        Due.lay(x, 7, 1, 1, 1, 1);
        DUE.is("a quotient beyond", x.divide(2, 3, 6, 7), -2);
        DUE.parts("nothing happens", x, 2, 2, 0, 0, 0, 0, 0, 0, 0);
        divideNearTheEdge(x);
    }

    private static void divideNearTheEdge(EightParts x) {
        Due.lay(x, 0, 20000);
        Due.lay(x, 1, 34);
        DUE.is("10000 by 17", x.divide(2, 3, 0, 1), 1);
        DUE.is("part(2, 0)", x.part(2, 0), 1176);
        DUE.is("part(3, 0)", x.part(3, 0), 8);
        Due.lay(x, 1, 38);
        DUE.is("10000 by 19, whose 526 times are 9994", x.divide(2, 3, 0, 1), 1);
        Due.lay(x, 1, 46);
        DUE.is("10000 by 23, whose 435 times are 10005", x.divide(2, 3, 0, 1), -2);
        x.times(0, 0, -1);
        DUE.is("-10000 by 23", x.divide(2, 3, 0, 1), -2);
        DUE.is("part(2, 0)", x.part(2, 0), 1052);
        Due.lay(x, 0, 19990);
        Due.lay(x, 1, 20);
        DUE.is("9995 by 10 at a tie", x.divide(2, 3, 0, 1), 1);
        DUE.is("part(2, 0)", x.part(2, 0), 1998);
        DUE.is("part(3, 0)", x.part(3, 0), 10);
    }

    private static void bracket() {
        EightParts x = new EightParts();
        Due.lay(x, 0, 2, 2);
        Due.lay(x, 1, 2, 0, 2);
        Due.lay(x, 2, 2, 0, 0, 0, 2);
        Due.lay(x, 3, 2, 0, 0, 0, 0, 0, 0, 2);
        int row = 0 + 8 + 2 * 64 + 3 * 512;
        // a(b(cd)), a((bc)d), (ab)(cd), (a(bc))d, ((ab)c)d
        String[] ways = {"a*(b*(c*d))", "a*((b*c)*d)", "(a*b)*(c*d)", "(a*(b*c))*d", "((a*b)*c)*d"};
        for (int k = 0; k < 5; k++) {
            DUE.is("bracket(4, 4, row, " + k + ")", x.bracket(4, 4, row, k), 1);
            Due.feed(x, ways[k]);
            DUE.is("work(5)", x.work(5), 1);
            DUE.is("way " + k, x.same(4, 5), 1);
        }
        DUE.is("way 5 of four", x.bracket(4, 4, row, 5), -1);
        DUE.is("way -1", x.bracket(4, 4, row, -1), -1);
        int[] many = {0, 0, 1, 2, 5, 14, 42};
        for (int length = 2; length <= 6; length++) {
            DUE.is("last way of " + length, x.bracket(4, length, 0, many[length] - 1), 1);
            DUE.is("one more of " + length, x.bracket(4, length, 0, many[length]), -1);
        }
        DUE.is("many 1", x.bracket(4, 1, 0, 0), -1);
        DUE.is("many 7", x.bracket(4, 7, 0, 0), -1);
        DUE.is("row below 0", x.bracket(4, 2, -1, 0), -1);
        DUE.is("no such slot", x.bracket(8, 2, 0, 0), -1);
        // 1/2 (1/2 times 8) can be, (1/2 1/2) times 8 cannot.
        Due.lay(x, 5, 1);
        Due.lay(x, 6, 16);
        DUE.is("the one way", x.bracket(7, 3, 5 + 8 * 5 + 64 * 6, 0), 1);
        DUE.is("part(7, 0)", x.part(7, 0), 4);
        DUE.is("the other", x.bracket(7, 3, 5 + 8 * 5 + 64 * 6, 1), -2);
        DUE.is("part(7, 0)", x.part(7, 0), 4);
        DUE.is("both", x.bracketed(3, 5 + 8 * 5 + 64 * 6), -2);
    }
}
