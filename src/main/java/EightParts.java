import java.util.Arrays;

/** Whole numbers of eight parts, whose product goes without the associative law. */
public final class EightParts {
    public static final int NONE = -1;

    private static final int CANNOT_BE = -2;
    private static final int NO_PART = NONE - 29999;
    private static final int EIGHT = 8;
    private static final int FIRST_ORDER = 1;
    private static final int MOST = 20000;
    private static final int MOST_TOLD = 2000000000;
    private static final int MOST_TIMES = 1000;
    private static final int TOP_NORM = 3;
    private static final int TURNS = 4;
    private static final int MOST_STEPS = 60;
    private static final int LONGEST_ROW = 6;
    private static final int FAULTS = -4;

    private final int[][] slots = new int[EIGHT][EIGHT];
    private final Reckoner reckoner = new Reckoner();
    private final Lattice lattice = new Lattice();
    private final Lists lists = new Lists(lattice);
    private final Units units = new Units(lists, reckoner);
    private final Divider divider = new Divider(lattice, reckoner);
    private final Laws lawBook = new Laws(reckoner);
    private final Ways ways = new Ways(reckoner);
    private final Tape tape = new Tape();
    private final Reader reader = new Reader(tape, slots, reckoner);
    private final Keeper keeper = new Keeper();
    private final StringBuilder spelled = new StringBuilder();
    private final int[] current = new int[EIGHT];
    private final int[] left = new int[EIGHT];
    private final int[] right = new int[EIGHT];
    private final long[] wide = new long[EIGHT];

    public EightParts() {
    }

    // ---- laid

    public boolean put(int slot, int part, int v) {
        if (!isEighth(slot) || !isEighth(part) || v < -MOST || v > MOST) {
            return false;
        }
        slots[slot][part] = v;
        return true;
    }

    public boolean one(int slot, int i) {
        if (!isEighth(slot) || !isEighth(i)) {
            return false;
        }
        Parts.layOne(slots[slot], i);
        return true;
    }

    public boolean listed(int slot, int norm, int k) {
        return isEighth(slot) && isListedNorm(norm) && lists.take(slots[slot], norm, k);
    }

    public boolean copy(int to, int from) {
        if (!areSlots(to, from)) {
            return false;
        }
        Parts.lay(slots[to], slots[from]);
        return true;
    }

    public int order(int order) {
        if (!isEighth(order)) {
            return NONE;
        }
        int before = lattice.held;
        lattice.held = order;
        return before;
    }

    // ---- reckoned

    public int sum(int to, int x, int y) {
        if (!areSlots(to, x, y)) {
            return NONE;
        }
        return told(reckoner.add(slots[to], slots[x], slots[y], 1));
    }

    public int less(int to, int x, int y) {
        if (!areSlots(to, x, y)) {
            return NONE;
        }
        return told(reckoner.add(slots[to], slots[x], slots[y], -1));
    }

    public int product(int to, int x, int y) {
        if (!areSlots(to, x, y)) {
            return NONE;
        }
        return told(reckoner.multiply(slots[to], slots[x], slots[y]));
    }

    public int mirror(int to, int x) {
        if (!areSlots(to, x)) {
            return NONE;
        }
        Parts.layMirrored(slots[to], slots[x]);
        return 1;
    }

    public int times(int to, int x, int n) {
        if (!areSlots(to, x) || n < -MOST_TIMES || n > MOST_TIMES) {
            return NONE;
        }
        return told(reckoner.scale(slots[to], slots[x], n));
    }

    public int turn(int to, int x, int u, int how) {
        if (!areSlots(to, x, u) || !isTurn(how)) {
            return NONE;
        }
        return told(reckoner.turnBy(slots[to], slots[x], slots[u], how));
    }

    public int chain(int to, int x, int many, int row, int how) {
        if (!areSlots(to, x) || !isRow(1, many, row) || !isTurn(how)) {
            return NONE;
        }
        Parts.lay(current, slots[x]);
        for (int k = 0; k < many; k++) {
            if (!reckoner.turnBy(current, current, slots[slotOfRow(row, k)], how)) {
                return CANNOT_BE;
            }
        }
        Parts.lay(slots[to], current);
        return 1;
    }

    public int last(int to, int x, int y) {
        if (!areSlots(to, x, y)) {
            return NONE;
        }
        divider.walk(slots[x], slots[y]);
        int[] found = divider.lastOfWalk();
        if (Parts.isZero(found)) {
            return CANNOT_BE;
        }
        Parts.lay(slots[to], found);
        return 1;
    }

    public int power(int to, int x, int n) {
        if (!areSlots(to, x) || n < 0 || n > MOST_STEPS) {
            return NONE;
        }
        Parts.layOne(current, 0);
        for (int k = 0; k < n; k++) {
            if (!reckoner.multiply(current, current, slots[x])) {
                return CANNOT_BE;
            }
        }
        Parts.lay(slots[to], current);
        return 1;
    }

    public int associator(int to, int x, int y, int z) {
        if (!areSlots(to, x, y) || !isEighth(z)) {
            return NONE;
        }
        boolean can = reckoner.multiply(left, slots[x], slots[y])
            && reckoner.multiply(left, left, slots[z])
            && reckoner.multiply(right, slots[y], slots[z])
            && reckoner.multiply(right, slots[x], right)
            && reckoner.add(slots[to], left, right, -1);
        return told(can);
    }

    public int commutator(int to, int x, int y) {
        if (!areSlots(to, x, y)) {
            return NONE;
        }
        boolean can = reckoner.multiply(left, slots[x], slots[y])
            && reckoner.multiply(right, slots[y], slots[x])
            && reckoner.add(slots[to], left, right, -1);
        return told(can);
    }

    public int nearest(int to, int x, int n) {
        if (!areSlots(to, x) || !isDivisor(n)) {
            return NONE;
        }
        for (int i = 0; i < EIGHT; i++) {
            wide[i] = slots[x][i];
        }
        return told(lattice.layNearest(slots[to], wide, n));
    }

    public int divide(int quotient, int rest, int x, int y) {
        if (!areSlots(quotient, rest) || !areSlots(x, y)) {
            return NONE;
        }
        if (!divider.split(slots[x], slots[y])) {
            return CANNOT_BE;
        }
        Parts.lay(slots[quotient], divider.quotient);
        Parts.lay(slots[rest], divider.rest);
        return 1;
    }

    public int bracket(int to, int many, int row, int k) {
        if (!isEighth(to) || !isRow(2, many, row) || k < 0 || k >= ways.manyOf(many)) {
            return NONE;
        }
        ways.fill(slots, many, row);
        return told(ways.layWay(slots[to], many, k));
    }

    public int feed(int a, int b, int c, int d, int e) {
        if (!tape.hasRoom()) {
            return NONE;
        }
        tape.append(a);
        tape.append(b);
        tape.append(c);
        tape.append(d);
        tape.append(e);
        return tape.length;
    }

    public int back(int n) {
        if (n < 0 || n > tape.length) {
            return NONE;
        }
        tape.length -= n;
        return tape.length;
    }

    public int work(int to) {
        if (!isEighth(to)) {
            return NONE;
        }
        int fault = reader.read();
        tape.length = 0;
        if (fault != NONE) {
            return FAULTS - fault;
        }
        return told(reader.layResult(slots[to]));
    }

    // ---- told

    public int part(int slot, int part) {
        return isEighth(slot) && isEighth(part) ? slots[slot][part] : NO_PART;
    }

    public int norm(int slot) {
        return isEighth(slot) ? capped(Parts.normBy4(slots[slot])) : NONE;
    }

    public int spell(int slot, int i) {
        if (!isEighth(slot) || i < NONE) {
            return NONE;
        }
        spelled.setLength(0);
        for (int k = 0; k < EIGHT; k++) {
            spellPart(slots[slot][k], k);
        }
        if (spelled.length() == 0) {
            spelled.append('0');
        }
        if (i == NONE) {
            return spelled.length();
        }
        return i < spelled.length() ? spelled.charAt(i) : NONE;
    }

    public int turned(int slot, int how, int i, int part) {
        if (!isEighth(slot) || !isTurn(how) || !isEighth(i) || !isEighth(part)) {
            return NO_PART;
        }
        Parts.layOne(current, i);
        return reckoner.turnBy(current, current, slots[slot], how) ? current[part] : NO_PART;
    }

    public int odd(int slot) {
        return isEighth(slot) ? Parts.oddSet(slots[slot]) : NONE;
    }

    public int whole(int slot) {
        return isEighth(slot) ? asked(lattice.isWhole(slots[slot])) : NONE;
    }

    public int orders(int slot) {
        if (!isEighth(slot)) {
            return NONE;
        }
        int oddSet = Parts.oddSet(slots[slot]);
        int found = 0;
        for (int order = 0; order < EIGHT; order++) {
            if (Lattice.mayBeOdd(order, oddSet)) {
                found |= 1 << order;
            }
        }
        return found;
    }

    public int same(int x, int y) {
        return areSlots(x, y) ? asked(Parts.areEqual(slots[x], slots[y])) : NONE;
    }

    // ---- lists

    public int many(int norm) {
        return isListedNorm(norm) ? lists.manyOf(norm) : NONE;
    }

    public int listedPart(int norm, int k, int part) {
        if (!isListedNorm(norm) || !isEighth(part) || !lists.take(current, norm, k)) {
            return NO_PART;
        }
        return current[part];
    }

    public int place(int slot) {
        if (!isEighth(slot)) {
            return NONE;
        }
        int found = lists.find(slots[slot]);
        return found == NONE ? CANNOT_BE : found;
    }

    public int divisors(int slot, int norm, boolean right) {
        if (!isEighth(slot) || norm < 1 || norm > TOP_NORM) {
            return NONE;
        }
        int many = lists.manyOf(norm);
        int found = 0;
        for (int k = 0; k < many; k++) {
            if (isDivisorAt(slot, norm, right, k)) {
                found++;
            }
        }
        return found;
    }

    public int divisor(int slot, int norm, boolean right, int k) {
        if (!isEighth(slot) || norm < 1 || norm > TOP_NORM || k < 0) {
            return NONE;
        }
        int many = lists.manyOf(norm);
        int ahead = 0;
        for (int at = 0; at < many; at++) {
            if (isDivisorAt(slot, norm, right, at)) {
                if (ahead == k) {
                    return at;
                }
                ahead++;
            }
        }
        return CANNOT_BE;
    }

    public int inner(int x, int y) {
        return areSlots(x, y) ? capped(Parts.innerBy4(slots[x], slots[y])) : NONE;
    }

    public int angles(int slot, int norm, int v) {
        if (!isEighth(slot) || !isListedNorm(norm)) {
            return NONE;
        }
        int many = lists.manyOf(norm);
        int found = 0;
        for (int k = 0; k < many; k++) {
            if (lists.take(current, norm, k) && capped(Parts.innerBy4(current, slots[slot])) == v) {
                found++;
            }
        }
        return found;
    }

    public int alike(int x, int y, int n) {
        if (!areSlots(x, y) || !isDivisor(n)) {
            return NONE;
        }
        return asked(areAlike(slots[x], slots[y], n));
    }

    public int alikeMany(int slot, int norm, int n) {
        if (!isEighth(slot) || !isListedNorm(norm) || !isDivisor(n)) {
            return NONE;
        }
        int many = lists.manyOf(norm);
        int found = 0;
        for (int k = 0; k < many; k++) {
            if (lists.take(current, norm, k) && areAlike(slots[slot], current, n)) {
                found++;
            }
        }
        return found;
    }

    public int commuting(int slot, int norm) {
        if (!isEighth(slot) || !isListedNorm(norm)) {
            return NONE;
        }
        int many = lists.manyOf(norm);
        int found = 0;
        for (int k = 0; k < many; k++) {
            if (lists.take(current, norm, k) && doCommute(slots[slot], current)) {
                found++;
            }
        }
        return found;
    }

    public int sides(int x, int y, boolean right) {
        if (!areSlots(x, y)) {
            return NONE;
        }
        int how = right ? 1 : 0;
        int many = lists.manyOf(1);
        int found = 0;
        for (int k = 0; k < many; k++) {
            if (lists.take(current, 1, k) && reckoner.turnBy(left, slots[x], current, how)
                && Parts.areEqual(left, slots[y])) {
                found++;
            }
        }
        return found;
    }

    // ---- units

    public int cycle(int slot) {
        if (!isEighth(slot)) {
            return NONE;
        }
        Parts.layOne(current, 0);
        for (int n = 1; n <= MOST_STEPS; n++) {
            if (!reckoner.multiply(current, current, slots[slot])) {
                return CANNOT_BE;
            }
            if (Parts.isOne(current)) {
                return n;
            }
        }
        return CANNOT_BE;
    }

    public int made(int slots, int what) {
        if (!isSlotSet(slots) || what < 0 || what > 4) {
            return NONE;
        }
        if (!units.gather(this.slots, slots)) {
            return CANNOT_BE;
        }
        switch (what) {
            case 0:
                return units.gathered;
            case 1:
                return asked(units.areAssociative());
            case 2:
                return asked(units.manyCentral() == units.gathered);
            case 3:
                return units.manyCentral();
            default:
                return units.manyOwnInverse();
        }
    }

    public int madeAt(int slots, int k) {
        if (!isSlotSet(slots) || k < 0) {
            return NONE;
        }
        if (!units.gather(this.slots, slots)) {
            return CANNOT_BE;
        }
        return units.gatheredAt(k);
    }

    public int table(int i, int k) {
        return units.multiplyAt(i, k);
    }

    public int turnCycle(int x, int u, int how) {
        if (!areSlots(x, u) || !isTurn(how)) {
            return NONE;
        }
        Parts.lay(current, slots[x]);
        for (int n = 1; n <= MOST_STEPS; n++) {
            if (!reckoner.turnBy(current, current, slots[u], how)) {
                return CANNOT_BE;
            }
            if (Parts.areEqual(current, slots[x])) {
                return n;
            }
        }
        return CANNOT_BE;
    }

    public int shared(int order, int other) {
        if (!isEighth(order) || !isEighth(other)) {
            return NONE;
        }
        return Lattice.manyUnitsOfBoth(order, other);
    }

    public int cycles(int n) {
        if (n < 1 || n > MOST_STEPS) {
            return NONE;
        }
        int many = lists.manyOf(1);
        int found = 0;
        for (int k = 0; k < many; k++) {
            if (units.cycleOf(k) == n) {
                found++;
            }
        }
        return found;
    }

    public int nucleus(int x, int y) {
        if (!areSlots(x, y)) {
            return NONE;
        }
        int many = lists.manyOf(1);
        int found = 0;
        for (int k = 0; k < many; k++) {
            if (lists.take(current, 1, k) && doAssociate(current, slots[x], slots[y])) {
                found++;
            }
        }
        return found;
    }

    // ---- laws

    public int laws(int x, int y, int z) {
        if (!areSlots(x, y, z)) {
            return NONE;
        }
        return lawBook.whichHold(slots[x], slots[y], slots[z]);
    }

    // ---- rows

    public int bracketed(int many, int row) {
        if (!isRow(2, many, row)) {
            return NONE;
        }
        ways.fill(slots, many, row);
        return ways.manyUnlike(many);
    }

    public int rests(int x, int y, int what) {
        if (!areSlots(x, y) || what < 0 || what > 2) {
            return NONE;
        }
        divider.walk(slots[x], slots[y]);
        switch (what) {
            case 0:
                return divider.steps;
            case 1:
                return divider.steps == 0 ? NONE : capped(divider.lastNormBy4());
            default:
                return capped(divider.greatestShare);
        }
    }

    // ---- kept

    public int keep() {
        return keeper.push(slots, lattice.held) ? keeper.kept : NONE;
    }

    public int restore() {
        int order = keeper.pop(slots);
        if (order == NONE) {
            return NONE;
        }
        lattice.held = order;
        return keeper.kept;
    }

    public int count(int what) {
        switch (what) {
            case 0:
                return lattice.held;
            case 1:
                return lists.manyOf(1);
            case 2:
                return wholeSlots();
            case 3:
                return keeper.kept;
            case 4:
                return emptySlots();
            default:
                return NONE;
        }
    }

    // ---- what the calls share

    private static boolean isEighth(int n) {
        return n >= 0 && n < EIGHT;
    }

    private static boolean areSlots(int x, int y) {
        return isEighth(x) && isEighth(y);
    }

    private static boolean areSlots(int x, int y, int z) {
        return isEighth(x) && isEighth(y) && isEighth(z);
    }

    private static boolean isSlotSet(int bits) {
        return bits >= 1 && bits <= 255;
    }

    private static boolean isTurn(int how) {
        return how >= 0 && how < TURNS;
    }

    private static boolean isListedNorm(int norm) {
        return norm >= 0 && norm <= TOP_NORM;
    }

    private static boolean isDivisor(int n) {
        return n >= 1 && n <= MOST_TIMES;
    }

    private static boolean isRow(int least, int many, int row) {
        return many >= least && many <= LONGEST_ROW && row >= 0;
    }

    private static int slotOfRow(int row, int k) {
        return row >> 3 * k & 7;
    }

    private static int told(boolean can) {
        return can ? 1 : CANNOT_BE;
    }

    private static int asked(boolean is) {
        return is ? 1 : 0;
    }

    private static int capped(long v) {
        return (int) Math.max(-MOST_TOLD, Math.min(MOST_TOLD, v));
    }

    private void spellPart(int v, int number) {
        if (v == 0) {
            return;
        }
        if (v < 0) {
            spelled.append('-');
        } else if (spelled.length() > 0) {
            spelled.append('+');
        }
        int size = Math.abs(v);
        if (size % 2 == 0) {
            spelled.append(size / 2);
        } else {
            spelled.append(size).append("/2");
        }
        spelled.append('e').append(number);
    }

    private boolean isDivisorAt(int slot, int norm, boolean right, int k) {
        return lists.take(current, norm, k) && divider.divides(current, norm, slots[slot], right);
    }

    private boolean areAlike(int[] x, int[] y, int n) {
        for (int i = 0; i < EIGHT; i++) {
            wide[i] = (long) x[i] - y[i];
        }
        return lattice.isWholeBy(wide, n);
    }

    private boolean doCommute(int[] x, int[] y) {
        return reckoner.multiply(left, x, y) && reckoner.multiply(right, y, x)
            && Parts.areEqual(left, right);
    }

    private boolean doAssociate(int[] x, int[] y, int[] z) {
        return reckoner.multiply(left, x, y) && reckoner.multiply(left, left, z)
            && reckoner.multiply(right, y, z) && reckoner.multiply(right, x, right)
            && Parts.areEqual(left, right);
    }

    private int wholeSlots() {
        int found = 0;
        for (int slot = 0; slot < EIGHT; slot++) {
            if (lattice.isWhole(slots[slot])) {
                found |= 1 << slot;
            }
        }
        return found;
    }

    private int emptySlots() {
        int found = 0;
        for (int slot = 0; slot < EIGHT; slot++) {
            if (Parts.isZero(slots[slot])) {
                found |= 1 << slot;
            }
        }
        return found;
    }

    /** What is done with rows of eight doubled parts. */
    private static final class Parts {
        static void lay(int[] to, int[] from) {
            System.arraycopy(from, 0, to, 0, EIGHT);
        }

        static void layOne(int[] to, int i) {
            Arrays.fill(to, 0);
            to[i] = 2;
        }

        static void layMirrored(int[] to, int[] from) {
            to[0] = from[0];
            for (int i = 1; i < EIGHT; i++) {
                to[i] = -from[i];
            }
        }

        static boolean areEqual(int[] x, int[] y) {
            for (int i = 0; i < EIGHT; i++) {
                if (x[i] != y[i]) {
                    return false;
                }
            }
            return true;
        }

        static boolean isZero(int[] x) {
            for (int i = 0; i < EIGHT; i++) {
                if (x[i] != 0) {
                    return false;
                }
            }
            return true;
        }

        static boolean isOne(int[] x) {
            return x[0] == 2 && normBy4(x) == 4;
        }

        static int oddSet(int[] x) {
            int set = 0;
            for (int i = 0; i < EIGHT; i++) {
                set |= (x[i] & 1) << i;
            }
            return set;
        }

        static long normBy4(int[] x) {
            return innerBy4(x, x);
        }

        static long innerBy4(int[] x, int[] y) {
            long added = 0;
            for (int i = 0; i < EIGHT; i++) {
                added += (long) x[i] * y[i];
            }
            return added;
        }

        // The rule of pairs is written out, as some calls take many thousand products.
        static void multiplyBy4(long[] p, int[] x, int[] y) {
            long x0 = x[0];
            long x1 = x[1];
            long x2 = x[2];
            long x3 = x[3];
            long x4 = x[4];
            long x5 = x[5];
            long x6 = x[6];
            long x7 = x[7];
            long y0 = y[0];
            long y1 = y[1];
            long y2 = y[2];
            long y3 = y[3];
            long y4 = y[4];
            long y5 = y[5];
            long y6 = y[6];
            long y7 = y[7];
            p[0] = x0 * y0 - x1 * y1 - x2 * y2 - x3 * y3 - x4 * y4 - x5 * y5 - x6 * y6 - x7 * y7;
            p[1] = x0 * y1 + x1 * y0 + x2 * y3 - x3 * y2 + x4 * y5 - x5 * y4 - x6 * y7 + x7 * y6;
            p[2] = x0 * y2 - x1 * y3 + x2 * y0 + x3 * y1 + x4 * y6 + x5 * y7 - x6 * y4 - x7 * y5;
            p[3] = x0 * y3 + x1 * y2 - x2 * y1 + x3 * y0 + x4 * y7 - x5 * y6 + x6 * y5 - x7 * y4;
            p[4] = x0 * y4 - x1 * y5 - x2 * y6 - x3 * y7 + x4 * y0 + x5 * y1 + x6 * y2 + x7 * y3;
            p[5] = x0 * y5 + x1 * y4 - x2 * y7 + x3 * y6 - x4 * y1 + x5 * y0 - x6 * y3 + x7 * y2;
            p[6] = x0 * y6 + x1 * y7 + x2 * y4 - x3 * y5 - x4 * y2 + x5 * y3 + x6 * y0 - x7 * y1;
            p[7] = x0 * y7 - x1 * y6 + x2 * y5 + x3 * y4 - x4 * y3 - x5 * y2 + x6 * y1 + x7 * y0;
        }

        static boolean halve(long[] p) {
            for (int i = 0; i < EIGHT; i++) {
                if ((p[i] & 1) != 0) {
                    return false;
                }
                p[i] /= 2;
            }
            return true;
        }

        static boolean layIfWithin(int[] to, long[] from) {
            for (int i = 0; i < EIGHT; i++) {
                if (from[i] < -MOST || from[i] > MOST) {
                    return false;
                }
            }
            for (int i = 0; i < EIGHT; i++) {
                to[i] = (int) from[i];
            }
            return true;
        }
    }

    /** Each method tells whether its result can be, and lays it only then; it may come to where a factor stands. */
    private static final class Reckoner {
        private final long[] result = new long[EIGHT];
        private final int[] middle = new int[EIGHT];
        private final int[] mirrored = new int[EIGHT];

        boolean add(int[] to, int[] x, int[] y, int sign) {
            for (int i = 0; i < EIGHT; i++) {
                result[i] = (long) x[i] + (long) sign * y[i];
            }
            return Parts.layIfWithin(to, result);
        }

        boolean scale(int[] to, int[] x, int n) {
            for (int i = 0; i < EIGHT; i++) {
                result[i] = (long) n * x[i];
            }
            return Parts.layIfWithin(to, result);
        }

        boolean multiply(int[] to, int[] x, int[] y) {
            Parts.multiplyBy4(result, x, y);
            return Parts.halve(result) && Parts.layIfWithin(to, result);
        }

        boolean turnBy(int[] to, int[] x, int[] u, int how) {
            switch (how) {
                case 0:
                    return multiply(to, u, x);
                case 1:
                    return multiply(to, x, u);
                case 2:
                    return multiply(middle, u, x) && multiply(to, middle, u);
                default:
                    Parts.layMirrored(mirrored, u);
                    return multiply(middle, u, x) && multiply(to, middle, mirrored);
            }
        }
    }

    /** The order that holds, and what is whole by it. */
    private static final class Lattice {
        private static final int[] CODE = {
            0, 255, 15, 240, 51, 204, 195, 60, 85, 170, 165, 90, 153, 102, 105, 150
        };
        private static final int WORDS = 16;

        private int held = FIRST_ORDER;
        private final long[][] near = new long[2][EIGHT];
        private final long[][] misses = new long[2][EIGHT];
        private final long[] chosen = new long[EIGHT];

        static int manyWords(int order) {
            return order == 0 ? 1 : WORDS;
        }

        static int exchange(int set, int s) {
            boolean unlike = (set & 1) != (set >> s & 1);
            return unlike ? set ^ (1 | 1 << s) : set;
        }

        static boolean mayBeOdd(int order, int set) {
            if (order == 0) {
                return set == 0;
            }
            int exchanged = exchange(set, order);
            for (int k = 0; k < WORDS; k++) {
                if (CODE[k] == exchanged) {
                    return true;
                }
            }
            return false;
        }

        // A set of none or of four odd parts has sixteen units, by signs or by place; one of eight has none.
        static int manyUnitsOfBoth(int order, int other) {
            int many = manyWords(order);
            int found = 0;
            for (int k = 0; k < many; k++) {
                int set = exchange(CODE[k], order);
                if (Integer.bitCount(set) <= 4 && mayBeOdd(other, set)) {
                    found += 16;
                }
            }
            return found;
        }

        boolean isWhole(int[] x) {
            return mayBeOdd(held, Parts.oddSet(x));
        }

        boolean isWholeBy(long[] x, long n) {
            if (n < 1) {
                return false;
            }
            int set = 0;
            for (int i = 0; i < EIGHT; i++) {
                if (x[i] % n != 0) {
                    return false;
                }
                set |= (int) (x[i] / n & 1) << i;
            }
            return mayBeOdd(held, set);
        }

        // Once its odd set is chosen, each part of the nearest one stands alone.
        boolean layNearest(int[] to, long[] x, long n) {
            if (n < 1) {
                return false;
            }
            for (int i = 0; i < EIGHT; i++) {
                findNear(0, i, x[i], n);
                findNear(1, i, x[i], n);
            }
            int best = bestWord();
            for (int i = 0; i < EIGHT; i++) {
                chosen[i] = near[best >> i & 1][i];
            }
            return Parts.layIfWithin(to, chosen);
        }

        // Of two as near it takes the lesser, which is listed first.
        private void findNear(int parity, int i, long x, long n) {
            long w = 2 * Math.floorDiv(x - n * parity + n - 1, 2 * n) + parity;
            long miss = x - n * w;
            near[parity][i] = w;
            misses[parity][i] = miss * miss;
        }

        private int bestWord() {
            int best = exchange(CODE[0], held);
            long least = missOf(best);
            int many = manyWords(held);
            for (int k = 1; k < many; k++) {
                int word = exchange(CODE[k], held);
                long miss = missOf(word);
                if (miss < least || miss == least && isListedAhead(word, best)) {
                    best = word;
                    least = miss;
                }
            }
            return best;
        }

        private long missOf(int word) {
            long added = 0;
            for (int i = 0; i < EIGHT; i++) {
                added += misses[word >> i & 1][i];
            }
            return added;
        }

        private boolean isListedAhead(int word, int other) {
            for (int i = 0; i < EIGHT; i++) {
                long difference = near[word >> i & 1][i] - near[other >> i & 1][i];
                if (difference != 0) {
                    return difference < 0;
                }
            }
            return false;
        }
    }

    /** All whole numbers of the norms 0 .. 3, each packed into one int: four bits a part, the first one highest. */
    private static final class Lists {
        private static final int[] ROOM = {1, 240, 2160, 6720};
        private static final int BIAS = 4;
        private static final int WIDEST = 3;
        private static final int HALVINGS = 16;

        private final Lattice lattice;
        private final int[][] rows = new int[TOP_NORM + 1][0];
        private final int[] sizes = new int[TOP_NORM + 1];
        private final int[] madeFor = {NONE, NONE, NONE, NONE};
        private final int[] oddWords = new int[EIGHT];

        Lists(Lattice lattice) {
            this.lattice = lattice;
        }

        int manyOf(int norm) {
            if (norm < 0 || norm > TOP_NORM) {
                return 0;
            }
            if (madeFor[norm] != lattice.held) {
                fill(norm);
            }
            return sizes[norm];
        }

        boolean take(int[] to, int norm, int k) {
            if (k < 0 || k >= manyOf(norm)) {
                return false;
            }
            unpack(to, rows[norm][k]);
            return true;
        }

        int find(int[] x) {
            long normBy4 = Parts.normBy4(x);
            if (normBy4 > 4 * TOP_NORM || normBy4 % 4 != 0) {
                return NONE;
            }
            int norm = (int) (normBy4 / 4);
            return manyOf(norm) > 0 ? search(norm, x) : NONE;
        }

        // A unit of a list that is filled already, as multiplyAt() sees to it.
        boolean takeUnit(int[] to, int k) {
            if (k < 0 || k >= sizes[1]) {
                return false;
            }
            unpack(to, rows[1][k]);
            return true;
        }

        // In a list that is filled already.
        int search(int norm, int[] x) {
            int low = 0;
            int high = sizes[norm] - 1;
            int wanted = pack(x);
            for (int halving = 0; halving < HALVINGS && low < high; halving++) {
                int middle = (low + high) / 2;
                if (rows[norm][middle] < wanted) {
                    low = middle + 1;
                } else {
                    high = middle;
                }
            }
            return low == high && rows[norm][low] == wanted ? low : NONE;
        }

        private static void unpack(int[] to, int packed) {
            for (int i = 0; i < EIGHT; i++) {
                to[i] = (packed >> 28 - 4 * i & 15) - BIAS;
            }
        }

        private static int pack(int[] x) {
            int packed = 0;
            for (int i = 0; i < EIGHT; i++) {
                packed = packed << 4 | x[i] + BIAS & 15;
            }
            return packed;
        }

        private void fill(int norm) {
            if (rows[norm].length == 0) {
                rows[norm] = new int[ROOM[norm]];
            }
            sortWords();
            sizes[norm] = 0;
            madeFor[norm] = lattice.held;
            int allWords = (1 << Lattice.manyWords(lattice.held)) - 1;
            grow(norm, 0, 4 * norm, allWords, 0);
        }

        private void sortWords() {
            Arrays.fill(oddWords, 0);
            int many = Lattice.manyWords(lattice.held);
            for (int k = 0; k < many; k++) {
                int word = Lattice.exchange(Lattice.CODE[k], lattice.held);
                for (int i = 0; i < EIGHT; i++) {
                    oddWords[i] |= (word >> i & 1) << k;
                }
            }
        }

        // words: the odd sets to which the parts laid so far can still belong.
        private void grow(int norm, int part, int rest, int words, int packed) {
            if (part >= EIGHT) {
                if (rest == 0 && sizes[norm] < rows[norm].length) {
                    rows[norm][sizes[norm]++] = packed;
                }
                return;
            }
            for (int v = -WIDEST; v <= WIDEST; v++) {
                int fitting = (v & 1) != 0 ? words & oddWords[part] : words & ~oddWords[part];
                if (v * v <= rest && fitting != 0) {
                    grow(norm, part + 1, rest - v * v, fitting, packed << 4 | v + BIAS);
                }
            }
        }
    }

    /** Units by their numbers in the list, and what some of them make. */
    private static final class Units {
        private static final int MOST_UNITS = 240;
        private static final int HALF = 120;

        private final Lists lists;
        private final Reckoner reckoner;
        private final int[] x = new int[EIGHT];
        private final int[] y = new int[EIGHT];
        private int[] products = new int[0];
        private int productsFor = NONE;
        private final int[] members = new int[MOST_UNITS];
        private final boolean[] isMember = new boolean[MOST_UNITS];
        private int gathered = 0;

        Units(Lists lists, Reckoner reckoner) {
            this.lists = lists;
            this.reckoner = reckoner;
        }

        // Number k from the end is the k-th with the other sign, so a quarter of all products is enough.
        int multiplyAt(int i, int k) {
            int end = lists.manyOf(1) - 1;
            if (i < 0 || i > end || k < 0 || k > end) {
                return NONE;
            }
            int first = Math.min(i, end - i);
            int second = Math.min(k, end - k);
            int found = multiplyNegative(first, second);
            return (first == i) == (second == k) || found == NONE ? found : end - found;
        }

        int cycleOf(int k) {
            int one = lists.manyOf(1) - 1;
            int reached = k;
            for (int n = 1; n <= MOST_STEPS; n++) {
                if (reached == one) {
                    return n;
                }
                reached = multiplyAt(reached, k);
            }
            return NONE;
        }

        boolean gather(int[][] slots, int bits) {
            forgetMembers();
            for (int slot = 0; slot < EIGHT; slot++) {
                if ((bits >> slot & 1) != 0) {
                    if (Parts.normBy4(slots[slot]) != 4) {
                        return false;
                    }
                    int found = lists.find(slots[slot]);
                    if (found == NONE) {
                        return false;
                    }
                    admit(found);
                }
            }
            close();
            return true;
        }

        int gatheredAt(int k) {
            int ahead = 0;
            for (int at = 0; at < MOST_UNITS; at++) {
                if (isMember[at]) {
                    if (ahead == k) {
                        return at;
                    }
                    ahead++;
                }
            }
            return NONE;
        }

        boolean areAssociative() {
            for (int i = 0; i < gathered; i++) {
                if (!isReal(members[i]) && !associatesWithAll(members[i])) {
                    return false;
                }
            }
            return true;
        }

        int manyCentral() {
            int found = 0;
            for (int i = 0; i < gathered; i++) {
                if (commutesWithAll(members[i])) {
                    found++;
                }
            }
            return found;
        }

        int manyOwnInverse() {
            int one = lists.manyOf(1) - 1;
            int found = 0;
            for (int i = 0; i < gathered; i++) {
                if (multiplyAt(members[i], members[i]) == one) {
                    found++;
                }
            }
            return found;
        }

        private void forgetMembers() {
            for (int i = 0; i < gathered; i++) {
                isMember[members[i]] = false;
            }
            gathered = 0;
        }

        private void admit(int unit) {
            if (unit >= 0 && unit < MOST_UNITS && gathered < MOST_UNITS && !isMember[unit]) {
                isMember[unit] = true;
                members[gathered] = unit;
                gathered++;
            }
        }

        // Once all units are in, no product can be new.
        private void close() {
            int all = lists.manyOf(1);
            for (int i = 0; i < gathered && gathered < all; i++) {
                for (int k = 0; k <= i; k++) {
                    admit(multiplyAt(members[i], members[k]));
                    admit(multiplyAt(members[k], members[i]));
                }
            }
        }

        // 1 and -1 associate with all: without them a set that is not associative shows it soon.
        private boolean isReal(int unit) {
            return unit == 0 || unit == lists.manyOf(1) - 1;
        }

        private boolean associatesWithAll(int unit) {
            for (int i = 0; i < gathered; i++) {
                int ahead = multiplyAt(unit, members[i]);
                for (int k = 0; k < gathered; k++) {
                    int behind = multiplyAt(members[i], members[k]);
                    if (multiplyAt(ahead, members[k]) != multiplyAt(unit, behind)) {
                        return false;
                    }
                }
            }
            return true;
        }

        private boolean commutesWithAll(int unit) {
            for (int i = 0; i < gathered; i++) {
                if (multiplyAt(unit, members[i]) != multiplyAt(members[i], unit)) {
                    return false;
                }
            }
            return true;
        }

        // A product stands in its row one higher than its number, as 0 says that it is not known yet.
        private int multiplyNegative(int i, int k) {
            makeRoom();
            if (i < 0 || i >= HALF || k < 0 || k >= HALF) {
                return NONE;
            }
            int at = i * HALF + k;
            if (products[at] == 0) {
                boolean can = lists.takeUnit(x, i) && lists.takeUnit(y, k) && reckoner.multiply(x, x, y);
                products[at] = can ? lists.search(1, x) + 1 : 0;
            }
            return products[at] - 1;
        }

        private void makeRoom() {
            if (products.length == 0) {
                products = new int[HALF * HALF];
            }
            if (productsFor != lists.lattice.held) {
                Arrays.fill(products, 0);
                productsFor = lists.lattice.held;
            }
        }
    }

    /** Division with a small rest, rests again and again, and which number divides another. */
    private static final class Divider {
        private final Lattice lattice;
        private final Reckoner reckoner;
        private final int[] quotient = new int[EIGHT];
        private final int[] rest = new int[EIGHT];
        private final int[] mirrored = new int[EIGHT];
        private final int[] dividend = new int[EIGHT];
        private final int[] divided = new int[EIGHT];
        private final long[] wide = new long[EIGHT];
        private int steps = 0;
        private long greatestShare = 0;

        Divider(Lattice lattice, Reckoner reckoner) {
            this.lattice = lattice;
            this.reckoner = reckoner;
        }

        boolean split(int[] x, int[] y) {
            long normBy4 = Parts.normBy4(y);
            if (normBy4 == 0 || normBy4 % 4 != 0) {
                return false;
            }
            Parts.layMirrored(mirrored, y);
            Parts.multiplyBy4(wide, x, mirrored);
            return Parts.halve(wide)
                && lattice.layNearest(quotient, wide, normBy4 / 4)
                && reckoner.multiply(rest, quotient, y)
                && reckoner.add(rest, x, rest, -1);
        }

        // Behind it dividend and divided hold the last two of x, y and their rests.
        void walk(int[] x, int[] y) {
            Parts.lay(dividend, x);
            Parts.lay(divided, y);
            steps = 0;
            greatestShare = 0;
            while (steps < MOST_STEPS && split(dividend, divided)) {
                noteShare();
                Parts.lay(dividend, divided);
                Parts.lay(divided, rest);
                steps++;
            }
        }

        int[] lastOfWalk() {
            return Parts.isZero(divided) ? dividend : divided;
        }

        long lastNormBy4() {
            return Parts.normBy4(divided);
        }

        boolean divides(int[] y, int norm, int[] x, boolean onRight) {
            Parts.layMirrored(mirrored, y);
            if (onRight) {
                Parts.multiplyBy4(wide, x, mirrored);
            } else {
                Parts.multiplyBy4(wide, mirrored, x);
            }
            return lattice.isWholeBy(wide, 2L * norm);
        }

        private void noteShare() {
            long by = Parts.normBy4(divided);
            if (by > 0) {
                greatestShare = Math.max(greatestShare, 100 * Parts.normBy4(rest) / by);
            }
        }
    }

    /** Which laws three numbers keep. */
    private static final class Laws {
        private static final int MANY = 8;
        private static final int NORM_LAW = 6;

        private final Reckoner reckoner;
        private final int[] xx = new int[EIGHT];
        private final int[] xy = new int[EIGHT];
        private final int[] yx = new int[EIGHT];
        private final int[] yz = new int[EIGHT];
        private final int[] zx = new int[EIGHT];
        private final int[] zy = new int[EIGHT];
        private final int[] left = new int[EIGHT];
        private final int[] right = new int[EIGHT];

        Laws(Reckoner reckoner) {
            this.reckoner = reckoner;
        }

        int whichHold(int[] x, int[] y, int[] z) {
            if (!multiplyPairs(x, y, z)) {
                return CANNOT_BE;
            }
            int found = 0;
            for (int law = 0; law < MANY; law++) {
                if (!layBothSides(law, x, y, z)) {
                    return CANNOT_BE;
                }
                if (law == NORM_LAW ? doNormsMultiply(x, y) : Parts.areEqual(left, right)) {
                    found |= 1 << law;
                }
            }
            return found;
        }

        private boolean multiplyPairs(int[] x, int[] y, int[] z) {
            return reckoner.multiply(xx, x, x) && reckoner.multiply(xy, x, y)
                && reckoner.multiply(yx, y, x) && reckoner.multiply(yz, y, z)
                && reckoner.multiply(zx, z, x) && reckoner.multiply(zy, z, y);
        }

        private boolean layBothSides(int law, int[] x, int[] y, int[] z) {
            switch (law) {
                case 0:
                    return reckoner.multiply(left, xy, z) && reckoner.multiply(right, x, yz);
                case 1:
                    Parts.lay(left, xy);
                    Parts.lay(right, yx);
                    return true;
                case 2:
                    return reckoner.multiply(left, x, xy) && reckoner.multiply(right, xx, y);
                case 3:
                    return reckoner.multiply(left, yx, x) && reckoner.multiply(right, y, xx);
                case 4:
                    return reckoner.multiply(left, x, yx) && reckoner.multiply(right, xy, x);
                case 5:
                    return reckoner.multiply(left, zx, yz) && reckoner.multiply(right, z, xy)
                        && reckoner.multiply(right, right, z);
                case NORM_LAW:
                    return true;
                default:
                    return reckoner.multiply(left, zx, z) && reckoner.multiply(left, left, y)
                        && reckoner.multiply(right, x, zy) && reckoner.multiply(right, z, right);
            }
        }

        private boolean doNormsMultiply(int[] x, int[] y) {
            return 4 * Parts.normBy4(xy) == Parts.normBy4(x) * Parts.normBy4(y);
        }
    }

    /** All ways to bracket a row: for each stretch of it all its products, in their order. */
    private static final class Ways {
        private static final int[] MANY = {0, 1, 1, 2, 5, 14, 42};
        private static final int[] START = {0, 0, 6, 11, 19, 34, 62};
        private static final int ALL = 104;

        private final Reckoner reckoner;
        private int[][] products = new int[0][0];
        private final boolean[] can = new boolean[ALL];

        Ways(Reckoner reckoner) {
            this.reckoner = reckoner;
        }

        int manyOf(int length) {
            return length >= 1 && length <= LONGEST_ROW ? MANY[length] : 0;
        }

        void fill(int[][] slots, int many, int row) {
            if (products.length == 0) {
                products = new int[ALL][EIGHT];
            }
            for (int k = 0; k < many; k++) {
                Parts.lay(products[k], slots[slotOfRow(row, k)]);
                can[k] = true;
            }
            for (int length = 2; length <= many; length++) {
                for (int from = 0; from + length <= many; from++) {
                    fillStretch(from, length);
                }
            }
        }

        boolean layWay(int[] to, int many, int k) {
            int at = START[many] + k;
            if (can[at]) {
                Parts.lay(to, products[at]);
            }
            return can[at];
        }

        int manyUnlike(int many) {
            int start = START[many];
            int found = 0;
            for (int k = 0; k < MANY[many]; k++) {
                if (!can[start + k]) {
                    return CANNOT_BE;
                }
                if (isNew(start, start + k)) {
                    found++;
                }
            }
            return found;
        }

        private boolean isNew(int start, int at) {
            for (int k = start; k < at; k++) {
                if (Parts.areEqual(products[k], products[at])) {
                    return false;
                }
            }
            return true;
        }

        private void fillStretch(int from, int length) {
            int at = startOf(from, length);
            for (int split = 1; split < length; split++) {
                int lefts = startOf(from, split);
                int rights = startOf(from + split, length - split);
                for (int l = 0; l < MANY[split]; l++) {
                    for (int r = 0; r < MANY[length - split]; r++) {
                        join(at, lefts + l, rights + r);
                        at++;
                    }
                }
            }
        }

        private static int startOf(int from, int length) {
            return START[length] + from * MANY[length];
        }

        private void join(int at, int l, int r) {
            can[at] = can[l] && can[r] && reckoner.multiply(products[at], products[l], products[r]);
        }
    }

    /** The bytes of a text that is to be worked. */
    private static final class Tape {
        private static final int LONGEST = 200;
        private static final int FED = 20;

        private final byte[] bytes = new byte[LONGEST];
        private int length = 0;

        boolean hasRoom() {
            return length + FED <= LONGEST;
        }

        void append(int four) {
            for (int shift = 24; shift >= 0 && length < LONGEST; shift -= 8) {
                bytes[length] = (byte) (four >> shift);
                length++;
            }
        }

        int byteAt(int at) {
            return at >= 0 && at < length ? bytes[at] & 255 : NONE;
        }
    }

    /** Reads and works the tape: what stands at a depth of nesting has rows of its own. */
    private static final class Reader {
        private static final int DEEPEST = 12;
        private static final int MOST_INT = 999;

        private final Tape tape;
        private final int[][] slots;
        private final Reckoner reckoner;
        private final int[][] sums = new int[DEEPEST + 1][EIGHT];
        private final int[][] terms = new int[DEEPEST + 1][EIGHT];
        private final int[][] factors = new int[DEEPEST + 1][EIGHT];
        private int at = 0;
        private int fault = NONE;
        private boolean can = true;

        Reader(Tape tape, int[][] slots, Reckoner reckoner) {
            this.tape = tape;
            this.slots = slots;
            this.reckoner = reckoner;
        }

        int read() {
            at = 0;
            fault = NONE;
            can = true;
            readSum(0);
            if (fault == NONE && ahead() != NONE) {
                fault = at;
            }
            return fault;
        }

        boolean layResult(int[] to) {
            if (can) {
                Parts.lay(to, sums[0]);
            }
            return can;
        }

        private int ahead() {
            while (at < tape.length && tape.byteAt(at) == ' ') {
                at++;
            }
            return tape.byteAt(at);
        }

        private void readSum(int depth) {
            readTerm(depth);
            Parts.lay(sums[depth], terms[depth]);
            for (int more = 0; more < tape.length && fault == NONE; more++) {
                int sign = ahead();
                if (sign != '+' && sign != '-') {
                    return;
                }
                at++;
                readTerm(depth);
                note(reckoner.add(sums[depth], sums[depth], terms[depth], sign == '+' ? 1 : -1));
            }
        }

        private void readTerm(int depth) {
            readFactor(depth);
            Parts.lay(terms[depth], factors[depth]);
            for (int more = 0; more < tape.length && fault == NONE; more++) {
                if (ahead() != '*') {
                    return;
                }
                at++;
                readFactor(depth);
                note(reckoner.multiply(terms[depth], terms[depth], factors[depth]));
            }
        }

        // The text is read to its end even so, as a fault is told ahead of what cannot be.
        private void note(boolean could) {
            can = can && could;
        }

        private void readFactor(int depth) {
            int sign = ahead();
            if (sign >= 'a' && sign <= 'h') {
                Parts.lay(factors[depth], slots[sign - 'a']);
                at++;
            } else if (isDigit(sign)) {
                readInt(depth);
            } else if ((sign == '~' || sign == '(') && depth < DEEPEST) {
                at++;
                readNested(depth + 1, sign);
            } else {
                fault = at;
            }
        }

        private void readNested(int depth, int sign) {
            if (sign == '~') {
                readFactor(depth);
                Parts.layMirrored(factors[depth - 1], factors[depth]);
                return;
            }
            readSum(depth);
            Parts.lay(factors[depth - 1], sums[depth]);
            if (fault != NONE) {
                return;
            }
            if (ahead() != ')') {
                fault = at;
                return;
            }
            at++;
        }

        private void readInt(int depth) {
            int first = at;
            int value = 0;
            while (at < tape.length && isDigit(tape.byteAt(at))) {
                value = Math.min(MOST_INT + 1, value * 10 + tape.byteAt(at) - '0');
                at++;
            }
            if (value > MOST_INT) {
                fault = first;
                return;
            }
            Arrays.fill(factors[depth], 0);
            factors[depth][0] = 2 * value;
        }

        private static boolean isDigit(int sign) {
            return sign >= '0' && sign <= '9';
        }
    }

    /** All slots and the order, as they were. */
    private static final class Keeper {
        private static final int MOST_KEPT = 6;
        private static final int SLOTS_WIDE = EIGHT * EIGHT;

        private final int[] heldOrders = new int[MOST_KEPT];
        private final int[] numbers = new int[MOST_KEPT * SLOTS_WIDE];
        private int kept = 0;

        boolean push(int[][] slots, int order) {
            if (kept >= MOST_KEPT) {
                return false;
            }
            for (int slot = 0; slot < EIGHT; slot++) {
                System.arraycopy(slots[slot], 0, numbers, kept * SLOTS_WIDE + slot * EIGHT, EIGHT);
            }
            heldOrders[kept] = order;
            kept++;
            return true;
        }

        int pop(int[][] slots) {
            if (kept <= 0) {
                return NONE;
            }
            kept--;
            for (int slot = 0; slot < EIGHT; slot++) {
                System.arraycopy(numbers, kept * SLOTS_WIDE + slot * EIGHT, slots[slot], 0, EIGHT);
            }
            return heldOrders[kept];
        }
    }
}
