/** Texts of SHEETS, each with its FAULT, or with what its RUN lays or its ERROR. */
final class Texts {
    private Texts() {
    }

    static void good(String text, int steps) {
        DiscCutter x = new DiscCutter();
        Due.due("sheet: " + text, x, Bench.sheet(x, text), steps, 0);
        Due.due("fault(0): " + text, x.fault(0), 0);
        Due.due("fault(1): " + text, x.fault(1), -1);
    }

    /** The FAULT stands where the mark | stands in the text. */
    static void bad(String marked, int kind) {
        int at = marked.indexOf('|');
        String text = marked.substring(0, at) + marked.substring(at + 1);
        DiscCutter x = new DiscCutter();
        Due.due("sheet: " + marked, x, Bench.sheet(x, text), -1, 9);
        Due.due("fault(0): " + marked, x.fault(0), kind);
        Due.due("fault(1): " + marked, x.fault(1), at);
    }

    static String times(String text, int many) {
        return text.repeat(many);
    }

    static DiscCutter withSongs() {
        DiscCutter x = new DiscCutter();
        x.tray(0, 0, 60);
        for (int k = 0; k < 60; k++) {
            x.write(0, k, k % 10 + 1);
        }
        x.song(0, 10, 1);
        x.song(0, 7, 1);
        x.song(0, 60, 1);
        return x;
    }

    static void levels(DiscCutter x, int side, int... due) {
        Due.due("parts(" + side + ")", x.parts(side), due.length);
        for (int k = 0; k < due.length; k++) {
            Due.due("level(" + side + ", " + k + ")", x.level(side, k), due[k]);
        }
    }

    static void runs(DiscCutter x, String text, int parts) {
        int steps = Bench.sheet(x, text);
        Due.due("a SHEET: " + text, x.status(), 0);
        Due.due("its STEPS are some: " + text, steps >= 0 ? 1 : 0, 1);
        Due.due("run: " + text, x, x.run(), parts, 0);
        Due.due("error(0): " + text, x.error(0), 0);
        Due.due("error(1): " + text, x.error(1), -1);
    }

    /** The ERROR is of the STEP behind the mark | in the text. */
    static void fails(DiscCutter x, String marked, int kind) {
        int at = marked.indexOf('|');
        String text = marked.substring(0, at) + marked.substring(at + 1);
        Bench.sheet(x, text);
        Due.due("a SHEET: " + marked, x.status(), 0);
        Due.due("run: " + marked, x, x.run(), -1, 10);
        Due.due("error(0): " + marked, x.error(0), kind);
        Due.due("error(1): " + marked, x.error(1), at);
    }
}
