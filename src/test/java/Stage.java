/**
 * An object with all of it known: eight slots, the order, one kept state and a text on the tape, so that
 * behind a call it can be asked what is another now. Each call is made on an object of its own.
 */
final class Stage {
    /** One call, its answer as a number. */
    interface Call {
        long on(EightParts x);
    }

    /** A call with a number put in at one of its places. */
    interface At {
        long on(EightParts x, int v);
    }

    private static final String TEXT = "3+4";
    private static final int TOLD_BY_TEXT = 14;
    private static final int KEPT_ORDER = 5;
    private static final int KEPT_PART = 77;

    private final Due due;
    private final int[][] rows = new int[8][8];
    private int order = 1;

    Stage(Due due) {
        this.due = due;
    }

    /** Slot i holds E(i). */
    static Stage units(Due due) {
        Stage to = new Stage(due);
        for (int i = 0; i < 8; i++) {
            to.rows[i][i] = 2;
        }
        return to;
    }

    static long bit(boolean answer) {
        return answer ? 1 : 0;
    }

    Stage lay(int slot, int... doubled) {
        for (int i = 0; i < 8; i++) {
            rows[slot][i] = i < doubled.length ? doubled[i] : 0;
        }
        return this;
    }

    Stage order(int other) {
        order = other;
        return this;
    }

    private EightParts set() {
        EightParts x = new EightParts();
        x.put(7, 7, KEPT_PART);
        x.order(KEPT_ORDER);
        x.keep();
        x.order(order);
        for (int slot = 0; slot < 8; slot++) {
            Due.lay(x, slot, rows[slot]);
        }
        Due.feed(x, TEXT);
        return x;
    }

    /** The call's answer, and nothing else. */
    void answers(String call, long want, Call made) {
        due.is(call, made.on(set()), want);
    }

    /** The call's answer, and that all is as it was. */
    void leaves(String call, long want, Call made) {
        EightParts x = set();
        due.is(call, made.on(x), want);
        holdAll("behind " + call, x);
    }

    /** The call's answer 1, what the slot holds then, and that all else is as it was. */
    void lays(String call, Call made, int slot, int... doubled) {
        laysBoth(call, made, slot, doubled, slot, doubled);
    }

    /** The call's answer 1, what each of two slots holds then, and that all else is as it was. */
    void laysBoth(String call, Call made, int slot, int[] doubled, int other, int... others) {
        EightParts x = set();
        due.is(call, made.on(x), 1);
        due.parts(call, x, slot, doubled);
        due.parts(call, x, other, others);
        Due.lay(x, slot, rows[slot]);
        Due.lay(x, other, rows[other]);
        holdAll("beside what is laid by " + call, x);
    }

    /** That a number is refused at its place, and all is as it was; the least and the greatest int, too. */
    void refuses(String call, long refusal, At made, int... wrong) {
        for (int v : wrong) {
            leaves(call + " with " + v, refusal, x -> made.on(x, v));
        }
        leaves(call + " with the least int", refusal, x -> made.on(x, Integer.MIN_VALUE));
        leaves(call + " with the greatest int", refusal, x -> made.on(x, Integer.MAX_VALUE));
    }

    /** That a number may be least .. most at its place: both are taken, the first ones beyond are refused. */
    void ranges(String call, int least, int most, long refusal, At made) {
        takes(call, refusal, made, least, most);
        refuses(call, refusal, made, least - 1, most + 1);
    }

    void takes(String call, long refusal, At made, int... right) {
        for (int v : right) {
            due.is(call + " takes " + v, made.on(set(), v) != refusal, true);
        }
    }

    /** That a place is one of a slot, or of a part, or of an order: all of these are 0 .. 7. */
    void eighth(String call, long refusal, At made) {
        ranges(call, 0, 7, refusal, made);
    }

    private void holdAll(String when, EightParts x) {
        for (int slot = 0; slot < 8; slot++) {
            due.parts(when, x, slot, rows[slot]);
        }
        due.is("the order " + when, x.count(0), order);
        due.is("how many are kept " + when, x.count(3), 1);
        due.is("the tape's length " + when, x.back(0), TEXT.length());
        due.is("the tape's work " + when, x.work(0), 1);
        due.is("what the tape tells " + when, x.part(0, 0), TOLD_BY_TEXT);
        due.is("what is kept " + when, x.restore(), 0);
        due.is("the order kept " + when, x.count(0), KEPT_ORDER);
        due.is("the part kept " + when, x.part(7, 7), KEPT_PART);
    }
}
