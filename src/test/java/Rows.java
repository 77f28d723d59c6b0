/** Rows of eight doubled parts that several tests lay. */
final class Rows {
    private Rows() {
    }

    static int[] zero() {
        return new int[8];
    }

    /** The same number at all parts. */
    static int[] all(int v) {
        int[] to = new int[8];
        java.util.Arrays.fill(to, v);
        return to;
    }

    /** A number at one part alone. */
    static int[] at(int part, int v) {
        int[] to = new int[8];
        to[part] = v;
        return to;
    }

    /** A row with another number at one part. */
    static int[] with(int[] row, int part, int v) {
        int[] to = row.clone();
        to[part] = v;
        return to;
    }

    static int[] negative(int[] row) {
        int[] to = new int[row.length];
        for (int i = 0; i < row.length; i++) {
            to[i] = -row[i];
        }
        return to;
    }
}
