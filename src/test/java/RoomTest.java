import java.lang.management.ManagementFactory;

/** All calls live in one room: rows are made once an object, and what is asked again makes nothing more. */
public final class RoomTest {
    /** Some forty thousand elements of four bytes: a run may make a hundred such objects and more. */
    private static final long MOST_BYTES = 160000;
    private static final long SLACK = 4000;
    private static final Due DUE = new Due();

    public static void main(String[] args) {
        // What the machine makes for itself when a class is used first isn't the program's.
        inAllOrders(new EightParts());
        long before = bytes();
        EightParts x = new EightParts();
        inAllOrders(x);
        long made = bytes() - before;
        DUE.is("bytes of an object and all its calls, " + made + ", few enough", made <= MOST_BYTES, true);
        before = bytes();
        inAllOrders(x);
        made = bytes() - before;
        DUE.is("bytes of the same calls once more, " + made + ", none", made <= SLACK, true);
        DUE.end();
    }

    private static long bytes() {
        return ((com.sun.management.ThreadMXBean) ManagementFactory.getThreadMXBean())
            .getCurrentThreadAllocatedBytes();
    }

    // Four orders alone, so that an object stays below the 512 calls for which it is promised.
    private static void inAllOrders(EightParts x) {
        for (int order = 0; order < 4; order++) {
            laid(x, order);
            reckoned(x);
            told(x);
            asked(x);
        }
    }

    private static void laid(EightParts x, int order) {
        x.order(order);
        x.listed(0, 1, 3);
        x.listed(1, 2, 7);
        x.listed(2, 3, 11);
        x.put(3, 3, 19999);
        x.one(4, 5);
        x.copy(5, 0);
    }

    private static void reckoned(EightParts x) {
        x.sum(6, 0, 1);
        x.less(6, 0, 1);
        x.product(6, 0, 1);
        x.mirror(6, 1);
        x.times(6, 1, -1000);
        x.turn(6, 1, 0, 3);
        x.chain(6, 1, 6, 0, 2);
        x.power(6, 0, 60);
        x.associator(6, 0, 1, 2);
        x.commutator(6, 0, 1);
        x.nearest(6, 2, 2);
        x.divide(6, 7, 3, 1);
        x.last(6, 3, 2);
        x.bracket(6, 6, 0, 41);
        // ~(a*b+c) - 12
        x.feed(0x7E28612A, 0x622B6329, 0x202D2031, 0x32202020, 0x20202020);
        x.back(3);
        x.work(6);
    }

    private static void told(EightParts x) {
        x.part(3, 3);
        x.norm(3);
        x.spell(2, EightParts.NONE);
        x.turned(0, 3, 4, 4);
        x.odd(0);
        x.whole(0);
        x.orders(0);
        x.same(0, 5);
        x.laws(0, 1, 2);
        x.bracketed(6, 0);
        x.rests(3, 1, 2);
        x.keep();
        x.restore();
        x.count(1);
    }

    private static void asked(EightParts x) {
        x.many(2);
        x.listedPart(3, 100, 1);
        x.place(2);
        x.divisors(2, 3, true);
        x.divisor(2, 3, false, 1);
        x.inner(0, 1);
        x.angles(0, 3, 1);
        x.alike(0, 1, 2);
        x.alikeMany(0, 3, 2);
        x.commuting(0, 3);
        x.sides(0, 5, true);
        x.cycle(0);
        x.made(1 | 16, 1);
        x.madeAt(1 | 16, 1);
        x.table(3, 5);
        x.turnCycle(1, 0, 3);
        x.shared(1, 2);
        x.cycles(4);
        x.nucleus(0, 1);
    }
}
