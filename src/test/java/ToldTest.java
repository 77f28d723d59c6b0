/** Promises 24 to 31: part .. same. */
public final class ToldTest {
    private static final Due DUE = new Due();

    public static void main(String[] args) {
        part();
        norm();
        spell();
        turned();
        oddWholeOrders();
        same();
        DUE.end();
    }

    private static void part() {
        EightParts x = new EightParts();
        x.put(3, 4, -20000);
        DUE.is("part(3, 4)", x.part(3, 4), -20000);
        DUE.is("part(4, 3)", x.part(4, 3), 0);
        DUE.is("part(-1, 0)", x.part(-1, 0), -30000);
        DUE.is("part(8, 0)", x.part(8, 0), -30000);
        DUE.is("part(0, -1)", x.part(0, -1), -30000);
        DUE.is("part(0, 8)", x.part(0, 8), -30000);
    }

    private static void norm() {
        EightParts x = new EightParts();
        Due.lay(x, 0, 1, -2, 3, -4, 5, -6, 7, -8);
        DUE.is("norm(0)", x.norm(0), 204);
        Due.lay(x, 1, 20000, 20000, -20000, 20000, 20000);
        DUE.is("just 2,000,000,000", x.norm(1), 2000000000);
        x.put(1, 5, 1);
        DUE.is("more", x.norm(1), 2000000000);
        Due.lay(x, 1, 20000, 20000, 20000, 20000, 20000, 20000, 20000, 20000);
        DUE.is("3,200,000,000", x.norm(1), 2000000000);
        x.put(1, 0, 0);
        Due.lay(x, 1, 20000, 20000, 20000, 20000, 19999);
        DUE.is("a little less", x.norm(1), 1999960001);
        DUE.is("norm(-1)", x.norm(-1), -1);
        DUE.is("norm(8)", x.norm(8), -1);
    }

    private static void spelled(EightParts x, int slot, String want) {
        DUE.is("signs of " + want, x.spell(slot, -1), want.length());
        for (int i = 0; i < want.length(); i++) {
            DUE.is("sign " + i + " of " + want, x.spell(slot, i), want.charAt(i));
        }
        DUE.is("behind " + want, x.spell(slot, want.length()), -1);
        DUE.is("ahead of " + want, x.spell(slot, -2), -1);
    }

    private static void spell() {
        EightParts x = new EightParts();
        spelled(x, 0, "0");
        Due.lay(x, 0, 2);
        spelled(x, 0, "1e0");
        Due.lay(x, 0, 1, -1, 2, -2, 0, 3, -20000, 19999);
        spelled(x, 0, "1/2e0-1/2e1+1e2-1e3+3/2e5-10000e6+19999/2e7");
        Due.lay(x, 1, 0, 0, 20);
        spelled(x, 1, "10e2");
        Due.lay(x, 1, -19999, -19999, -19999, -19999, -19999, -19999, -19999, -19999);
        StringBuilder longest = new StringBuilder();
        for (int i = 0; i < 8; i++) {
            longest.append("-19999/2e").append(i);
        }
        spelled(x, 1, longest.toString());
        spelled(x, 0, "1/2e0-1/2e1+1e2-1e3+3/2e5-10000e6+19999/2e7");
        DUE.is("spell(8, 0)", x.spell(8, 0), -1);
        DUE.is("spell(-1, -1)", x.spell(-1, -1), -1);
        DUE.is("spell(0, MAX)", x.spell(0, Integer.MAX_VALUE), -1);
        DUE.is("spell(0, MIN)", x.spell(0, Integer.MIN_VALUE), -1);
    }

    private static void turned() {
        EightParts x = new EightParts();
        x.one(0, 4);
        DUE.is("E(4) E(3)", x.turned(0, 0, 3, 7), -2);
        DUE.is("E(3) E(4)", x.turned(0, 1, 3, 7), 2);
        DUE.is("(E(4) E(3)) E(4)", x.turned(0, 2, 3, 3), 2);
        DUE.is("(E(4) E(3)) E(4)'", x.turned(0, 3, 3, 3), -2);
        DUE.is("another part", x.turned(0, 0, 3, 6), 0);
        Due.lay(x, 1, 1);
        DUE.is("1/2 E(2)", x.turned(1, 0, 2, 2), 1);
        DUE.is("1/2 E(2) 1/2", x.turned(1, 2, 2, 2), -30000);
        Due.lay(x, 2, 20000);
        DUE.is("10000 E(2)", x.turned(2, 1, 2, 2), 20000);
        DUE.is("10000 E(2) 10000", x.turned(2, 2, 2, 0), -30000);
        DUE.is("how 4", x.turned(0, 4, 0, 0), -30000);
        DUE.is("how -1", x.turned(0, -1, 0, 0), -30000);
        DUE.is("slot 8", x.turned(8, 0, 0, 0), -30000);
        DUE.is("i 8", x.turned(0, 0, 8, 0), -30000);
        DUE.is("i -1", x.turned(0, 0, -1, 0), -30000);
        DUE.is("part 8", x.turned(0, 0, 0, 8), -30000);
        DUE.parts("the slot stays", x, 0, 0, 0, 0, 0, 2, 0, 0, 0);
    }

    private static void oddWholeOrders() {
        EightParts x = new EightParts();
        for (int set = 0; set < 256; set++) {
            int size = Integer.bitCount(set);
            for (int i = 0; i < 8; i++) {
                x = x.put(0, i, (set >> i & 1) != 0 ? -3 : 4) ? x : null;
            }
            DUE.is("odd of " + set, x.odd(0), set);
            int orders = 0;
            for (int order = 0; order < 8; order++) {
                x.order(order);
                orders |= x.whole(0) << order;
            }
            DUE.is("orders of " + set, x.orders(0), orders);
            if (size == 0 || size == 8) {
                DUE.is("orders of " + set, orders, size == 0 ? 255 : 254);
            } else if (size != 4) {
                DUE.is("orders of " + set, orders, 0);
            }
            x = new EightParts();
        }
        knownSets(x);
        DUE.is("odd(8)", x.odd(8), -1);
        DUE.is("odd(-1)", x.odd(-1), -1);
        DUE.is("whole(8)", x.whole(8), -1);
        DUE.is("orders(-1)", x.orders(-1), -1);
        DUE.is("orders(8)", x.orders(8), -1);
    }

    private static void knownSets(EightParts x) {
        // {0, 1, 2, 3} keeps 0 under an exchange with 1, 2 and 3; {4 .. 7} is what it leaves.
        Due.lay(x, 0, 1, 1, 1, 1);
        DUE.is("orders(0)", x.orders(0), 2 + 4 + 8);
        Due.lay(x, 0, 0, 0, 0, 0, 1, 1, 1, 1);
        DUE.is("orders(0)", x.orders(0), 2 + 4 + 8);
        // {0, 1, 2, 4}: by 3 it is {1, 2, 3, 4}, no word; by 7 {7, 1, 2, 4}, what {0, 3, 5, 6} leaves.
        Due.lay(x, 0, 1, 1, 1, 0, 1);
        DUE.is("orders(0)", x.orders(0), 128);
    }

    private static void same() {
        EightParts x = new EightParts();
        DUE.is("same(0, 7)", x.same(0, 7), 1);
        x.put(7, 7, 1);
        DUE.is("same(0, 7)", x.same(0, 7), 0);
        DUE.is("same(7, 7)", x.same(7, 7), 1);
        DUE.is("same(8, 7)", x.same(8, 7), -1);
        DUE.is("same(7, -1)", x.same(7, -1), -1);
        DUE.is("same(8, 8)", x.same(8, 8), -1);
    }
}
