import java.util.ArrayList;
import java.util.Arrays;
import java.util.Collections;
import java.util.HashSet;
import java.util.List;
import java.util.Set;
import java.util.TreeSet;

/**
 * The document a second time, by other ways than the program's, and slowly: the product by pairs of pairs,
 * lists by looking through all there is, the nearest one by walking there from neighbour to neighbour.
 * Its methods bear the names of the program's, so that the same calls can be made of both.
 */
final class Model {
    /** What CANNOT BE. */
    private static final class CannotBe extends RuntimeException {
        private static final long serialVersionUID = 1L;

        CannotBe() {
            super(null, null, false, false);
        }
    }

    private static final class Fault extends RuntimeException {
        private static final long serialVersionUID = 1L;
        final int at;

        Fault(int at) {
            super(null, null, false, false);
            this.at = at;
        }
    }

    private static final long[][][] OF_TWO = ofTwo();
    private static final Set<Set<Integer>> CODE = code();
    private static final List<List<long[]>> SMALL = small();
    private static final List<List<List<long[]>>> LISTS = lists();

    private long[][] slots = new long[8][8];
    private int held = 1;
    private final List<long[][]> keptSlots = new ArrayList<>();
    private final List<Integer> keptOrders = new ArrayList<>();
    private String tape = "";
    private int reading = 0;
    private boolean can = true;

    // ---- numbers

    private static long[] conjugate(long[] x) {
        long[] to = x.clone();
        for (int i = 1; i < to.length; i++) {
            to[i] = -to[i];
        }
        return to;
    }

    private static long[] plus(long[] x, long[] y, long sign) {
        long[] to = new long[x.length];
        for (int i = 0; i < to.length; i++) {
            to[i] = x[i] + sign * y[i];
        }
        return to;
    }

    private static long[] pairs(long[] x, long[] y) {
        int half = x.length / 2;
        if (half == 0) {
            return new long[] {x[0] * y[0]};
        }
        long[] a = Arrays.copyOfRange(x, 0, half);
        long[] b = Arrays.copyOfRange(x, half, 2 * half);
        long[] c = Arrays.copyOfRange(y, 0, half);
        long[] d = Arrays.copyOfRange(y, half, 2 * half);
        long[] first = plus(pairs(a, c), pairs(conjugate(d), b), -1);
        long[] second = plus(pairs(d, a), pairs(b, conjugate(c)), 1);
        long[] to = Arrays.copyOf(first, 2 * half);
        System.arraycopy(second, 0, to, half, half);
        return to;
    }

    /** For each two of the eight E their product, by pairs: the rest is laid together of these. */
    private static long[][][] ofTwo() {
        long[][][] to = new long[8][8][];
        for (int i = 0; i < 8; i++) {
            for (int k = 0; k < 8; k++) {
                long[] x = new long[8];
                long[] y = new long[8];
                x[i] = 1;
                y[k] = 1;
                to[i][k] = pairs(x, y);
            }
        }
        return to;
    }

    private static long[] wholeProduct(long[] x, long[] y) {
        long[] to = new long[8];
        for (int i = 0; i < 8; i++) {
            for (int k = 0; k < 8; k++) {
                to[i ^ k] += OF_TWO[i][k][i ^ k] * x[i] * y[k];
            }
        }
        for (int i = 0; i < 8; i++) {
            if (Math.floorMod(to[i], 2) != 0) {
                throw new CannotBe();
            }
            to[i] /= 2;
        }
        return to;
    }

    private static long[] within(long[] x) {
        for (long v : x) {
            if (Math.abs(v) > 20000) {
                throw new CannotBe();
            }
        }
        return x;
    }

    private static long[] multiplied(long[] x, long[] y) {
        return within(wholeProduct(x, y));
    }

    private static long dot(long[] x, long[] y) {
        long to = 0;
        for (int i = 0; i < 8; i++) {
            to += x[i] * y[i];
        }
        return to;
    }

    private static long[] unit(int i) {
        long[] to = new long[8];
        to[i] = 2;
        return to;
    }

    private static boolean isNull(long[] x) {
        return dot(x, x) == 0;
    }

    private static Set<Integer> oddOnes(long[] x) {
        Set<Integer> to = new TreeSet<>();
        for (int i = 0; i < 8; i++) {
            if (Math.floorMod(x[i], 2) == 1) {
                to.add(i);
            }
        }
        return to;
    }

    private static Set<Set<Integer>> code() {
        Set<Integer> all = Set.of(0, 1, 2, 3, 4, 5, 6, 7);
        Set<Set<Integer>> to = new HashSet<>(List.of(Set.of(), all));
        for (int i = 1; i < 8; i++) {
            for (int k = 1; k < 8; k++) {
                if (i != k) {
                    Set<Integer> word = Set.of(0, i, k, i ^ k);
                    Set<Integer> others = new TreeSet<>(all);
                    others.removeAll(word);
                    to.add(word);
                    to.add(others);
                }
            }
        }
        return to;
    }

    private static boolean isIn(int order, long[] x) {
        Set<Integer> exchanged = new TreeSet<>();
        for (int i : oddOnes(x)) {
            exchanged.add(i == 0 ? order : i == order ? 0 : i);
        }
        return order == 0 ? exchanged.isEmpty() : CODE.contains(exchanged);
    }

    private static int compare(long[] x, long[] y) {
        return Arrays.compare(x, y);
    }

    private static List<List<long[]>> small() {
        List<List<long[]>> to = new ArrayList<>();
        for (int norm = 0; norm <= 3; norm++) {
            to.add(new ArrayList<>());
        }
        long[] x = new long[8];
        for (int code = 0; code < 7 * 7 * 7 * 7 * 7 * 7 * 7 * 7; code++) {
            int rest = code;
            long norm = 0;
            for (int i = 0; i < 8; i++) {
                x[i] = rest % 7 - 3;
                rest /= 7;
                norm += x[i] * x[i];
            }
            if (norm <= 12 && norm % 4 == 0) {
                to.get((int) norm / 4).add(x.clone());
            }
        }
        return to;
    }

    private static List<List<List<long[]>>> lists() {
        List<List<List<long[]>>> to = new ArrayList<>();
        for (int order = 0; order < 8; order++) {
            List<List<long[]>> ofOrder = new ArrayList<>();
            for (List<long[]> all : SMALL) {
                List<long[]> list = new ArrayList<>();
                for (long[] x : all) {
                    if (isIn(order, x)) {
                        list.add(x);
                    }
                }
                Collections.sort(list, Model::compare);
                ofOrder.add(list);
            }
            to.add(ofOrder);
        }
        return to;
    }

    private List<long[]> list(int norm) {
        return LISTS.get(held).get(norm);
    }

    private int number(long[] x) {
        long norm = dot(x, x);
        if (norm > 12 || norm % 4 != 0) {
            return -1;
        }
        int at = Collections.binarySearch(list((int) norm / 4), x, Model::compare);
        return at < 0 ? -1 : at;
    }

    // ---- nearest, divided

    /** By how much more w and a step miss x than w does, by n: the squares themselves might run over. */
    private static long missedMore(long[] x, long n, long[] w, long[] step) {
        return n * dot(step, step) - 2 * dot(plus(x, w, -n), step);
    }

    /** The walls of a cell lie halfway to what is of norm 1 or 2: where no such step leads nearer, none does. */
    private long[] nearestOne(long[] x, long n) {
        long[] w = new long[8];
        for (int i = 0; i < 8; i++) {
            w[i] = 2 * Math.round((double) x[i] / (2.0 * n));
        }
        for (boolean moved = true; moved; ) {
            moved = false;
            for (int norm = 1; norm <= 2; norm++) {
                for (long[] step : list(norm)) {
                    long[] other = plus(w, step, 1);
                    long more = missedMore(x, n, w, step);
                    if (more < 0 || more == 0 && compare(other, w) < 0) {
                        w = other;
                        moved = true;
                    }
                }
            }
        }
        return within(w);
    }

    private long[][] divided(long[] x, long[] y) {
        long norm = dot(y, y);
        if (norm == 0 || norm % 4 != 0) {
            throw new CannotBe();
        }
        long[] q = nearestOne(wholeProduct(x, conjugate(y)), norm / 4);
        return new long[][] {q, within(plus(x, multiplied(q, y), -1))};
    }

    private List<long[]> withRests(long[] x, long[] y) {
        List<long[]> to = new ArrayList<>(List.of(x, y));
        try {
            for (int k = 0; k < 60; k++) {
                int n = to.size();
                to.add(divided(to.get(n - 2), to.get(n - 1))[1]);
            }
        } catch (CannotBe none) {
            return to;
        }
        return to;
    }

    private boolean isWholeBy(long[] x, long n) {
        long[] to = new long[8];
        for (int i = 0; i < 8; i++) {
            if (Math.floorMod(x[i], n) != 0) {
                return false;
            }
            to[i] = x[i] / n;
        }
        return isIn(held, to);
    }

    private static long[] turnOf(long[] x, long[] u, int how) {
        switch (how) {
            case 0:
                return multiplied(u, x);
            case 1:
                return multiplied(x, u);
            case 2:
                return multiplied(multiplied(u, x), u);
            default:
                return multiplied(multiplied(u, x), conjugate(u));
        }
    }

    private static boolean ok(int... slots) {
        for (int slot : slots) {
            if (slot < 0 || slot > 7) {
                return false;
            }
        }
        return true;
    }

    /** What is to be laid, reckoned late, so that what cannot be is told by one place. */
    private interface Work {
        long[] go();
    }

    private int reckoned(int to, Work work) {
        try {
            slots[to] = within(work.go()).clone();
            return 1;
        } catch (CannotBe none) {
            return -2;
        }
    }

    // ---- laid

    boolean put(int slot, int part, int v) {
        if (!ok(slot, part) || v > 20000 || v < -20000) {
            return false;
        }
        slots[slot][part] = v;
        return true;
    }

    boolean one(int slot, int i) {
        if (!ok(slot, i)) {
            return false;
        }
        slots[slot] = unit(i);
        return true;
    }

    boolean listed(int slot, int norm, int k) {
        if (!ok(slot) || norm < 0 || norm > 3 || k < 0 || k >= list(norm).size()) {
            return false;
        }
        slots[slot] = list(norm).get(k).clone();
        return true;
    }

    boolean copy(int to, int from) {
        if (!ok(to, from)) {
            return false;
        }
        slots[to] = slots[from].clone();
        return true;
    }

    int order(int order) {
        if (!ok(order)) {
            return -1;
        }
        int before = held;
        held = order;
        return before;
    }

    // ---- reckoned

    int sum(int to, int x, int y) {
        return ok(to, x, y) ? reckoned(to, () -> plus(slots[x], slots[y], 1)) : -1;
    }

    int less(int to, int x, int y) {
        return ok(to, x, y) ? reckoned(to, () -> plus(slots[x], slots[y], -1)) : -1;
    }

    int product(int to, int x, int y) {
        return ok(to, x, y) ? reckoned(to, () -> multiplied(slots[x], slots[y])) : -1;
    }

    int mirror(int to, int x) {
        return ok(to, x) ? reckoned(to, () -> conjugate(slots[x])) : -1;
    }

    int times(int to, int x, int n) {
        if (!ok(to, x) || Math.abs((long) n) > 1000) {
            return -1;
        }
        return reckoned(to, () -> plus(new long[8], slots[x], n));
    }

    int turn(int to, int x, int u, int how) {
        return ok(to, x, u) && how >= 0 && how < 4 ? reckoned(to, () -> turnOf(slots[x], slots[u], how)) : -1;
    }

    private List<long[]> rowOf(int many, int row) {
        List<long[]> to = new ArrayList<>();
        int rest = row;
        for (int k = 0; k < many; k++) {
            to.add(slots[rest % 8]);
            rest /= 8;
        }
        return to;
    }

    int chain(int to, int x, int many, int row, int how) {
        if (!ok(to, x) || many < 1 || many > 6 || row < 0 || how < 0 || how > 3) {
            return -1;
        }
        return reckoned(to, () -> {
            long[] now = slots[x];
            for (long[] u : rowOf(many, row)) {
                now = turnOf(now, u, how);
            }
            return now;
        });
    }

    int last(int to, int x, int y) {
        if (!ok(to, x, y)) {
            return -1;
        }
        return reckoned(to, () -> {
            List<long[]> all = withRests(slots[x], slots[y]);
            for (int k = all.size() - 1; k >= 0; k--) {
                if (!isNull(all.get(k))) {
                    return all.get(k);
                }
            }
            throw new CannotBe();
        });
    }

    private static long[] powerOf(long[] x, int n) {
        if (n == 0) {
            return unit(0);
        }
        return n == 1 ? x : multiplied(powerOf(x, n - 1), x);
    }

    int power(int to, int x, int n) {
        return ok(to, x) && n >= 0 && n <= 60 ? reckoned(to, () -> powerOf(slots[x], n)) : -1;
    }

    int associator(int to, int x, int y, int z) {
        return ok(to, x, y, z) ? reckoned(to, () -> plus(
            multiplied(multiplied(slots[x], slots[y]), slots[z]),
            multiplied(slots[x], multiplied(slots[y], slots[z])), -1)) : -1;
    }

    int commutator(int to, int x, int y) {
        return ok(to, x, y) ? reckoned(to, () -> plus(
            multiplied(slots[x], slots[y]), multiplied(slots[y], slots[x]), -1)) : -1;
    }

    int nearest(int to, int x, int n) {
        return ok(to, x) && n >= 1 && n <= 1000 ? reckoned(to, () -> nearestOne(slots[x], n)) : -1;
    }

    int divide(int quotient, int rest, int x, int y) {
        if (!ok(quotient, rest, x, y)) {
            return -1;
        }
        try {
            long[][] both = divided(slots[x], slots[y]);
            slots[quotient] = both[0];
            slots[rest] = both[1];
            return 1;
        } catch (CannotBe none) {
            return -2;
        }
    }

    /** A null stands for what cannot be. */
    private static List<long[]> allWays(List<long[]> row) {
        if (row.size() == 1) {
            return row;
        }
        List<long[]> to = new ArrayList<>();
        for (int behind = 1; behind < row.size(); behind++) {
            for (long[] left : allWays(row.subList(0, behind))) {
                for (long[] right : allWays(row.subList(behind, row.size()))) {
                    to.add(joined(left, right));
                }
            }
        }
        return to;
    }

    private static long[] joined(long[] left, long[] right) {
        try {
            return left == null || right == null ? null : multiplied(left, right);
        } catch (CannotBe none) {
            return null;
        }
    }

    int bracket(int to, int many, int row, int k) {
        if (!ok(to) || many < 2 || many > 6 || row < 0 || k < 0) {
            return -1;
        }
        List<long[]> all = allWays(rowOf(many, row));
        if (k >= all.size()) {
            return -1;
        }
        if (all.get(k) == null) {
            return -2;
        }
        return reckoned(to, () -> all.get(k));
    }

    int feed(int a, int b, int c, int d, int e) {
        if (tape.length() + 20 > 200) {
            return -1;
        }
        StringBuilder more = new StringBuilder(tape);
        for (int word : new int[] {a, b, c, d, e}) {
            for (int k = 3; k >= 0; k--) {
                more.append((char) (word >>> 8 * k & 255));
            }
        }
        tape = more.toString();
        return tape.length();
    }

    int back(int n) {
        if (n < 0 || n > tape.length()) {
            return -1;
        }
        tape = tape.substring(0, tape.length() - n);
        return tape.length();
    }

    int work(int to) {
        if (!ok(to)) {
            return -1;
        }
        reading = 0;
        can = true;
        try {
            long[] found = readSum(0);
            if (seen() != -1) {
                throw new Fault(reading);
            }
            tape = "";
            if (!can) {
                return -2;
            }
            slots[to] = found.clone();
            return 1;
        } catch (Fault fault) {
            tape = "";
            return -4 - fault.at;
        }
    }

    private int seen() {
        while (reading < tape.length() && tape.charAt(reading) == ' ') {
            reading++;
        }
        return reading < tape.length() ? tape.charAt(reading) : -1;
    }

    private long[] readSum(int depth) {
        long[] now = readTerm(depth);
        while (seen() == '+' || seen() == '-') {
            int sign = tape.charAt(reading++) == '+' ? 1 : -1;
            now = bounded(now, readTerm(depth), sign);
        }
        return now;
    }

    private long[] readTerm(int depth) {
        long[] now = readFactor(depth);
        while (seen() == '*') {
            reading++;
            now = bounded(now, readFactor(depth), 0);
        }
        return now;
    }

    private long[] bounded(long[] x, long[] y, int sign) {
        try {
            return sign == 0 ? multiplied(x, y) : within(plus(x, y, sign));
        } catch (CannotBe none) {
            can = false;
            return x;
        }
    }

    private long[] readFactor(int depth) {
        int sign = seen();
        int first = reading++;
        if (sign >= 'a' && sign <= 'h') {
            return slots[sign - 'a'];
        }
        if (sign >= '0' && sign <= '9') {
            while (reading < tape.length() && tape.charAt(reading) >= '0' && tape.charAt(reading) <= '9') {
                reading++;
            }
            double value = Double.parseDouble(tape.substring(first, reading));
            if (value > 999) {
                throw new Fault(first);
            }
            return plus(new long[8], unit(0), (long) value);
        }
        if (depth == 12 || sign != '~' && sign != '(') {
            throw new Fault(first);
        }
        if (sign == '~') {
            return conjugate(readFactor(depth + 1));
        }
        long[] within = readSum(depth + 1);
        if (seen() != ')') {
            throw new Fault(reading);
        }
        reading++;
        return within;
    }

    // ---- told

    int part(int slot, int part) {
        return ok(slot, part) ? (int) slots[slot][part] : -30000;
    }

    private static int held(long v) {
        return (int) Math.max(-2000000000L, Math.min(2000000000L, v));
    }

    int norm(int slot) {
        return ok(slot) ? held(dot(slots[slot], slots[slot])) : -1;
    }

    int spell(int slot, int i) {
        if (!ok(slot)) {
            return -1;
        }
        String text = "";
        for (int k = 0; k < 8; k++) {
            long v = slots[slot][k];
            String size = v % 2 == 0 ? "" + Math.abs(v) / 2 : Math.abs(v) + "/2";
            text += v == 0 ? "" : (v < 0 ? "-" : text.isEmpty() ? "" : "+") + size + "e" + k;
        }
        text = text.isEmpty() ? "0" : text;
        return i == -1 ? text.length() : i >= 0 && i < text.length() ? text.charAt(i) : -1;
    }

    int turned(int slot, int how, int i, int part) {
        if (!ok(slot, i, part) || how < 0 || how > 3) {
            return -30000;
        }
        try {
            return (int) turnOf(unit(i), slots[slot], how)[part];
        } catch (CannotBe none) {
            return -30000;
        }
    }

    int odd(int slot) {
        if (!ok(slot)) {
            return -1;
        }
        int to = 0;
        for (int i : oddOnes(slots[slot])) {
            to += 1 << i;
        }
        return to;
    }

    int whole(int slot) {
        return !ok(slot) ? -1 : isIn(held, slots[slot]) ? 1 : 0;
    }

    int orders(int slot) {
        if (!ok(slot)) {
            return -1;
        }
        int to = 0;
        for (int order = 0; order < 8; order++) {
            to += isIn(order, slots[slot]) ? 1 << order : 0;
        }
        return to;
    }

    int same(int x, int y) {
        return !ok(x, y) ? -1 : Arrays.equals(slots[x], slots[y]) ? 1 : 0;
    }

    // ---- lists

    int many(int norm) {
        return norm < 0 || norm > 3 ? -1 : list(norm).size();
    }

    int listedPart(int norm, int k, int part) {
        if (norm < 0 || norm > 3 || !ok(part) || k < 0 || k >= list(norm).size()) {
            return -30000;
        }
        return (int) list(norm).get(k)[part];
    }

    int place(int slot) {
        if (!ok(slot)) {
            return -1;
        }
        int at = number(slots[slot]);
        return at < 0 ? -2 : at;
    }

    private List<Integer> divisorsOf(int slot, int norm, boolean right) {
        List<Integer> to = new ArrayList<>();
        for (int k = 0; k < list(norm).size(); k++) {
            long[] bent = conjugate(list(norm).get(k));
            try {
                long[] by = right ? wholeProduct(slots[slot], bent) : wholeProduct(bent, slots[slot]);
                if (isWholeBy(by, norm)) {
                    to.add(k);
                }
            } catch (CannotBe none) {
                continue;
            }
        }
        return to;
    }

    int divisors(int slot, int norm, boolean right) {
        return !ok(slot) || norm < 1 || norm > 3 ? -1 : divisorsOf(slot, norm, right).size();
    }

    int divisor(int slot, int norm, boolean right, int k) {
        if (!ok(slot) || norm < 1 || norm > 3 || k < 0) {
            return -1;
        }
        List<Integer> all = divisorsOf(slot, norm, right);
        return k < all.size() ? all.get(k) : -2;
    }

    int inner(int x, int y) {
        return ok(x, y) ? held(dot(slots[x], slots[y])) : -1;
    }

    int angles(int slot, int norm, int v) {
        if (!ok(slot) || norm < 0 || norm > 3) {
            return -1;
        }
        return (int) list(norm).stream().filter(y -> dot(slots[slot], y) == v).count();
    }

    int alike(int x, int y, int n) {
        if (!ok(x, y) || n < 1 || n > 1000) {
            return -1;
        }
        return isWholeBy(plus(slots[x], slots[y], -1), n) ? 1 : 0;
    }

    int alikeMany(int slot, int norm, int n) {
        if (!ok(slot) || norm < 0 || norm > 3 || n < 1 || n > 1000) {
            return -1;
        }
        return (int) list(norm).stream().filter(y -> isWholeBy(plus(slots[slot], y, -1), n)).count();
    }

    private static boolean agree(Work one, Work other) {
        try {
            return Arrays.equals(one.go(), other.go());
        } catch (CannotBe none) {
            return false;
        }
    }

    int commuting(int slot, int norm) {
        if (!ok(slot) || norm < 0 || norm > 3) {
            return -1;
        }
        long[] x = slots[slot];
        return (int) list(norm).stream().filter(y -> agree(() -> multiplied(x, y), () -> multiplied(y, x))).count();
    }

    int sides(int x, int y, boolean right) {
        if (!ok(x, y)) {
            return -1;
        }
        return (int) list(1).stream().filter(u -> agree(
            () -> right ? multiplied(slots[x], u) : multiplied(u, slots[x]), () -> slots[y])).count();
    }

    // ---- units

    private static int cycleOf(long[] x) {
        try {
            for (int n = 1; n <= 60; n++) {
                if (Arrays.equals(powerOf(x, n), unit(0))) {
                    return n;
                }
            }
        } catch (CannotBe none) {
            return -2;
        }
        return -2;
    }

    int cycle(int slot) {
        return ok(slot) ? cycleOf(slots[slot]) : -1;
    }

    private TreeSet<Integer> madeOf(int bits) {
        TreeSet<Integer> to = new TreeSet<>();
        for (int slot = 0; slot < 8; slot++) {
            if ((bits & 1 << slot) != 0) {
                int at = number(slots[slot]);
                if (at < 0 || dot(slots[slot], slots[slot]) != 4) {
                    return null;
                }
                to.add(at);
            }
        }
        for (int before = 0; before != to.size(); ) {
            before = to.size();
            List<Integer> now = new ArrayList<>(to);
            for (int i : now) {
                for (int k : now) {
                    to.add(table(i, k));
                }
            }
        }
        return to;
    }

    int made(int bits, int what) {
        if (bits < 1 || bits > 255 || what < 0 || what > 4) {
            return -1;
        }
        TreeSet<Integer> all = madeOf(bits);
        if (all == null) {
            return -2;
        }
        int one = number(unit(0));
        long central = all.stream().filter(x -> all.stream().allMatch(y -> table(x, y) == table(y, x))).count();
        switch (what) {
            case 0:
                return all.size();
            case 1:
                return all.stream().allMatch(x -> all.stream().allMatch(y -> all.stream().allMatch(
                    z -> table(table(x, y), z) == table(x, table(y, z))))) ? 1 : 0;
            case 2:
                return central == all.size() ? 1 : 0;
            case 3:
                return (int) central;
            default:
                return (int) all.stream().filter(x -> table(x, x) == one).count();
        }
    }

    int madeAt(int bits, int k) {
        if (bits < 1 || bits > 255 || k < 0) {
            return -1;
        }
        TreeSet<Integer> all = madeOf(bits);
        if (all == null) {
            return -2;
        }
        return k < all.size() ? new ArrayList<>(all).get(k) : -1;
    }

    int table(int i, int k) {
        if (i < 0 || k < 0 || i >= list(1).size() || k >= list(1).size()) {
            return -1;
        }
        return number(multiplied(list(1).get(i), list(1).get(k)));
    }

    int turnCycle(int x, int u, int how) {
        if (!ok(x, u) || how < 0 || how > 3) {
            return -1;
        }
        try {
            long[] now = slots[x];
            for (int n = 1; n <= 60; n++) {
                now = turnOf(now, slots[u], how);
                if (Arrays.equals(now, slots[x])) {
                    return n;
                }
            }
        } catch (CannotBe none) {
            return -2;
        }
        return -2;
    }

    int shared(int order, int other) {
        if (!ok(order, other)) {
            return -1;
        }
        return (int) LISTS.get(order).get(1).stream().filter(u -> isIn(other, u)).count();
    }

    int cycles(int n) {
        return n < 1 || n > 60 ? -1 : (int) list(1).stream().filter(u -> cycleOf(u) == n).count();
    }

    int nucleus(int x, int y) {
        if (!ok(x, y)) {
            return -1;
        }
        return (int) list(1).stream().filter(u -> agree(
            () -> multiplied(multiplied(u, slots[x]), slots[y]),
            () -> multiplied(u, multiplied(slots[x], slots[y])))).count();
    }

    // ---- laws

    int laws(int sx, int sy, int sz) {
        if (!ok(sx, sy, sz)) {
            return -1;
        }
        long[] x = slots[sx];
        long[] y = slots[sy];
        long[] z = slots[sz];
        try {
            boolean[] law = {
                Arrays.equals(multiplied(multiplied(x, y), z), multiplied(x, multiplied(y, z))),
                Arrays.equals(multiplied(x, y), multiplied(y, x)),
                Arrays.equals(multiplied(x, multiplied(x, y)), multiplied(multiplied(x, x), y)),
                Arrays.equals(multiplied(multiplied(y, x), x), multiplied(y, multiplied(x, x))),
                Arrays.equals(multiplied(x, multiplied(y, x)), multiplied(multiplied(x, y), x)),
                Arrays.equals(multiplied(multiplied(z, x), multiplied(y, z)),
                    multiplied(multiplied(z, multiplied(x, y)), z)),
                dot(multiplied(x, y), multiplied(x, y)) * 4 == dot(x, x) * dot(y, y),
                Arrays.equals(multiplied(multiplied(multiplied(z, x), z), y),
                    multiplied(z, multiplied(x, multiplied(z, y)))),
            };
            int to = 0;
            for (int k = 0; k < 8; k++) {
                to += law[k] ? 1 << k : 0;
            }
            return to;
        } catch (CannotBe none) {
            return -2;
        }
    }

    // ---- rows

    int bracketed(int many, int row) {
        if (many < 2 || many > 6 || row < 0) {
            return -1;
        }
        Set<String> unlike = new HashSet<>();
        for (long[] x : allWays(rowOf(many, row))) {
            if (x == null) {
                return -2;
            }
            unlike.add(Arrays.toString(x));
        }
        return unlike.size();
    }

    int rests(int x, int y, int what) {
        if (!ok(x, y) || what < 0 || what > 2) {
            return -1;
        }
        List<long[]> all = withRests(slots[x], slots[y]);
        long[] end = all.get(all.size() - 1);
        long greatest = 0;
        for (int k = 2; k < all.size(); k++) {
            greatest = Math.max(greatest, 100 * dot(all.get(k), all.get(k)) / dot(all.get(k - 1), all.get(k - 1)));
        }
        if (what == 0) {
            return all.size() - 2;
        }
        return what == 2 ? (int) greatest : all.size() == 2 ? -1 : held(dot(end, end));
    }

    // ---- kept

    int keep() {
        if (keptSlots.size() == 6) {
            return -1;
        }
        long[][] now = new long[8][];
        for (int slot = 0; slot < 8; slot++) {
            now[slot] = slots[slot].clone();
        }
        keptSlots.add(now);
        keptOrders.add(held);
        return keptSlots.size();
    }

    int restore() {
        if (keptSlots.isEmpty()) {
            return -1;
        }
        slots = keptSlots.remove(keptSlots.size() - 1);
        held = keptOrders.remove(keptOrders.size() - 1);
        return keptSlots.size();
    }

    int count(int what) {
        int whole = 0;
        int empty = 0;
        for (int slot = 0; slot < 8; slot++) {
            whole += isIn(held, slots[slot]) ? 1 << slot : 0;
            empty += isNull(slots[slot]) ? 1 << slot : 0;
        }
        int[] to = {held, list(1).size(), whole, keptSlots.size(), empty};
        return what < 0 || what > 4 ? -1 : to[what];
    }
}
