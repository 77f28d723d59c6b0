import java.lang.management.ManagementFactory;

/**
 * All calls of a run live in one room: an object with its rows takes little of it, and the dearest call, made as
 * often as an object may be called, does not fill it.
 */
public final class RoomTest {
    /** One call, its answer as a number. */
    private interface Call {
        long on(EightParts x);
    }

    private static final int CALLS = 512;
    /** Each element has a byte at least, each object sixteen: so much holds no more of either than the room does. */
    private static final long ROOM = 7300000;
    private static final int OBJECTS_OF_A_RUN = 10;
    private static final Due DUE = new Due();

    private static final Call[] LAID = {
        x -> Stage.bit(x.listed(0, 1, 3)), x -> Stage.bit(x.listed(1, 2, 7)), x -> Stage.bit(x.listed(2, 3, 11)),
        x -> Stage.bit(x.put(3, 3, 19999)), x -> Stage.bit(x.one(4, 5)), x -> Stage.bit(x.copy(5, 0)),
    };
    private static final Call[] RECKONED = {
        x -> x.sum(6, 0, 1), x -> x.less(6, 0, 1), x -> x.product(6, 0, 1), x -> x.mirror(6, 1),
        x -> x.times(6, 1, -1000), x -> x.turn(6, 1, 0, 3), x -> x.chain(6, 1, 6, 0, 2), x -> x.power(6, 0, 60),
        x -> x.associator(6, 0, 1, 2), x -> x.commutator(6, 0, 1), x -> x.nearest(6, 2, 2),
        x -> x.divide(6, 7, 3, 1), x -> x.last(6, 3, 2), x -> x.bracket(6, 6, 0, 41),
        // ~(a*b+c) - 12
        x -> x.feed(0x7E28612A, 0x622B6329, 0x202D2031, 0x32202020, 0x20202020), x -> x.back(3), x -> x.work(6),
    };
    private static final Call[] TOLD = {
        x -> x.part(3, 3), x -> x.norm(3), x -> x.spell(2, EightParts.NONE), x -> x.turned(0, 3, 4, 4),
        x -> x.odd(0), x -> x.whole(0), x -> x.orders(0), x -> x.same(0, 5), x -> x.laws(0, 1, 2),
        x -> x.bracketed(6, 0), x -> x.rests(3, 1, 2), x -> x.keep(), x -> x.restore(), x -> x.count(1),
    };
    private static final Call[] ASKED = {
        x -> x.many(2), x -> x.listedPart(3, 100, 1), x -> x.place(2), x -> x.divisors(2, 3, true),
        x -> x.divisor(2, 3, false, 1), x -> x.inner(0, 1), x -> x.angles(0, 3, 1), x -> x.alike(0, 1, 2),
        x -> x.alikeMany(0, 3, 2), x -> x.commuting(0, 3), x -> x.sides(0, 5, true), x -> x.cycle(0),
        x -> x.made(1 | 16, 1), x -> x.madeAt(1 | 16, 1), x -> x.table(3, 5), x -> x.turnCycle(1, 0, 3),
        x -> x.shared(1, 2), x -> x.cycles(4), x -> x.nucleus(0, 1),
    };
    private static final Call[][] GROUPS = {LAID, RECKONED, TOLD, ASKED};
    private static final String[] NAMES = {"laid", "reckoned", "told", "asked"};

    private long dearest = 0;
    private String nameOfDearest = "";

    public static void main(String[] args) {
        // What the machine makes for itself when a class is used first isn't the program's.
        new RoomTest().callAll(new EightParts());
        long before = bytes();
        EightParts x = new EightParts();
        new RoomTest().callAll(x);
        long made = bytes() - before;
        DUE.is("few bytes made by an object and its first calls, " + made, made * OBJECTS_OF_A_RUN <= ROOM, true);
        RoomTest again = new RoomTest();
        again.callAll(x);
        DUE.is("few bytes made by the dearest call, " + again.dearest + " of " + again.nameOfDearest,
            again.dearest * CALLS <= ROOM, true);
        DUE.end();
    }

    private static long bytes() {
        return ((com.sun.management.ThreadMXBean) ManagementFactory.getThreadMXBean())
            .getCurrentThreadAllocatedBytes();
    }

    // Four orders alone, so that an object stays below the calls for which it is promised.
    private void callAll(EightParts x) {
        for (int order = 0; order < 4; order++) {
            x.order(order);
            for (int group = 0; group < GROUPS.length; group++) {
                for (int k = 0; k < GROUPS[group].length; k++) {
                    long before = bytes();
                    GROUPS[group][k].on(x);
                    note(bytes() - before, group, k);
                }
            }
        }
    }

    private void note(long made, int group, int k) {
        if (made > dearest) {
            dearest = made;
            nameOfDearest = NAMES[group] + "[" + k + "]";
        }
    }
}
