/** Holds answers against those that are due, and tells those that are not. */
final class Due {
    private int wrong = 0;

    void is(String call, long got, long want) {
        if (got != want) {
            wrong++;
            System.out.println(call + " answered " + got + ", due is " + want);
        }
    }

    void is(String call, boolean got, boolean want) {
        is(call, got ? 1 : 0, want ? 1 : 0);
    }

    /** The doubled parts of a slot, all eight: those that are not given are 0. */
    void parts(String call, EightParts x, int slot, int... want) {
        for (int i = 0; i < 8; i++) {
            is(call + ": part " + i + " of slot " + slot, x.part(slot, i), i < want.length ? want[i] : 0);
        }
    }

    static void lay(EightParts x, int slot, int... doubled) {
        for (int i = 0; i < 8; i++) {
            x.put(slot, i, i < doubled.length ? doubled[i] : 0);
        }
    }

    /** Feeds a text of any length up to 200 by whole twenties and takes back what is too much. */
    static int feed(EightParts x, String text) {
        int told = x.back(0);
        for (int at = 0; at < text.length(); at += 20) {
            int[] words = new int[5];
            for (int k = 0; k < 20; k++) {
                int sign = at + k < text.length() ? text.charAt(at + k) : 32;
                words[k / 4] = words[k / 4] << 8 | sign & 255;
            }
            told = x.feed(words[0], words[1], words[2], words[3], words[4]);
            if (told == EightParts.NONE) {
                return told;
            }
        }
        int over = (20 - text.length() % 20) % 20;
        return x.back(over);
    }

    void end() {
        System.out.println(wrong == 0 ? "all answers are as due" : wrong + " answers are not as due");
        if (wrong != 0) {
            System.exit(1);
        }
    }
}
