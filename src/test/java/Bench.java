/** What the tests' runs are made of: SONGS by their LEVELS, texts on the tape. */
final class Bench {
    static final int FAR = Integer.MAX_VALUE;
    static final int DEEP = Integer.MIN_VALUE;

    /** No SIDE has such a number. */
    static final int[] NO_SIDES = {DEEP, -1, 2, FAR};

    /** No TRAY has such a number. */
    static final int[] NO_TRAYS = {DEEP, -1, 4, FAR};

    private Bench() {
    }

    /** A SONG by TRAY 3. */
    static int song(DiscCutter x, int high, int... levels) {
        x.tray(3, 0, levels.length);
        for (int k = 0; k < levels.length; k++) {
            x.write(3, k, levels[k]);
        }
        return x.song(3, levels.length, high);
    }

    /** A SONG by TRAY 3, all of one LEVEL. */
    static int flat(DiscCutter x, int high, int length, int level) {
        x.tray(3, 0, length);
        for (int k = 0; k < length && level > 0; k++) {
            x.write(3, k, level);
        }
        return x.song(3, length, high);
    }

    /** A SIDE of so many LEAD PARTS alone. */
    static void silent(DiscCutter x, int side, int many) {
        x.anew(side);
        for (int left = many; left > 0; left -= 100) {
            x.lead(side, Math.min(left, 100));
        }
    }

    /** A text on the tape; behind it signs that no TOKEN begins with, up to some times 20. */
    static void put(DiscCutter x, String text) {
        StringBuilder padded = new StringBuilder(text);
        while (padded.length() % 20 != 0) {
            padded.append('~');
        }
        for (int k = 0; k < padded.length(); k += 20) {
            int[] v = new int[5];
            for (int i = 0; i < 20; i++) {
                v[i / 4] = v[i / 4] << 8 | padded.charAt(k + i);
            }
            x.feed(v[0], v[1], v[2], v[3], v[4]);
        }
    }

    /** A text as the SHEET. */
    static int sheet(DiscCutter x, String text) {
        put(x, text);
        return x.sheet(text.length());
    }
}
