/** Promises 1 to 9: a test for each sentence that names an edge; what is quoted is the document's. */
public final class TrayEdgesTest {
    private static final int FAR = Bench.FAR;
    private static final int DEEP = Bench.DEEP;

    public static void main(String[] args) {
        nothingAtFirst();
        landAndFeedAtFirst();
        fiveHundredCalls();
        statusOfTheLatestCall();
        callsWithoutStatus();
        trays0To3();
        rowsOf0To60();
        sorts0To3();
        soMany0s();
        missingAtFirst();
        cutToItsSort();
        placesOfATray();
        noneFromMinusOne();
        pourBelow0();
        pourAskedInThisOrder();
        pourToTheLastPlace();
        pourAsTheyWere();
        pourOfNone();
        songOf1To60();
        highOf0To9();
        levelsOf0To40();
        levelsOfEachSort();
        theFirstSoMany();
        songAskedInThisOrder();
        songsAtMostTen();
        toldOfASong();
        theGreatestLevel();
        landOf1To20();
        feedOf1To20();
        Due.end();
    }

    // ---- 1, 2

    /** "No SONGS, SIDES are empty, no CLICKS; TRAYS are MISSING; STATUS 0." */
    private static void nothingAtFirst() {
        DiscCutter x = new DiscCutter();
        Due.due("1 status()", x.status(), 0);
        Due.due("1 no SONG", x, x.told(0, 0), -1, 1);
        for (int side = 0; side < 2; side++) {
            Due.due("1 empty", x, x.parts(side), 0, 0);
            Due.due("1 empty: no PART", x, x.level(side, 0), -1, 1);
            Due.due("1 not LOCKED", x, x.locked(side), -1, 6);
            Due.due("1 nothing is heard", x, x.heard(side, 0), -1, 6);
        }
        Due.due("1 no CLICKS", x, x.longest(), -1, 6);
        Due.due("1 no CLICKS", x, x.cover(), 0, 0);
        Due.due("1 fault(0)", x.fault(0), -1);
        Due.due("1 error(0)", x.error(0), -1);
        Due.due("1 no SHEET", x, x.run(), -1, 9);
        Due.due("1 no MARK", x, x.mark(0, 0), -1, 6);
        Due.due("1 an empty tape", x.feed(0, 0, 0, 0, 0), 20);
        DiscCutter y = new DiscCutter();
        x.tray(0, 0, 1);
        x.lead(0, 1);
        x.click(0, 0);
        Due.due("1 objects share nothing", y, y.read(0, 0), -1, 2);
        Due.due("1 objects share nothing", y, y.parts(0), 0, 0);
        Due.due("1 objects share nothing", y, y.cover(), 0, 0);
    }

    /** "LAND (1 to 20; 4 at first)", "FEED (1 to 20; 8 at first)". */
    private static void landAndFeedAtFirst() {
        DiscCutter x = new DiscCutter();
        Bench.silent(x, 0, 9);
        Due.due("1 LAND 4: place(0, 8)", x, x.place(0, 8), 4, 0);
        Bench.flat(x, 0, 9, 30);
        x.lay(1, 0);
        Due.due("1 FEED 8: twice 30 and 4 are 8 times 8", x, x.place(1, 8), 64, 0);
        Due.due("1 FEED 8: place(1, 7)", x, x.place(1, 7), 56, 0);
        Bench.flat(x, 0, 9, 31);
        x.anew(1);
        x.lay(1, 1);
        Due.due("1 twice 31 and 4 are more", x, x.cannot(1), 8, 0);
    }

    /** "An object is used for at most 512 calls after it has been made". */
    private static void fiveHundredCalls() {
        DiscCutter x = new DiscCutter();
        x.tray(0, 3, 60);
        for (int k = 1; k < 510; k++) {
            x.write(0, k % 60, k);
        }
        Due.due("the 511th call", x.write(0, 59, 511), true);
        Due.due("the 512th call", x.read(0, 59), 511);
    }

    /** "STATUS of the latest call that has one." */
    private static void statusOfTheLatestCall() {
        DiscCutter x = new DiscCutter();
        x.read(0, 0);
        Due.due("2 MISSING", x.status(), 2);
        Due.due("2 asked twice", x.status(), 2);
        x.tray(0, 0, 0);
        Due.due("2 fine behind it", x.status(), 0);
        x.read(0, 0);
        Due.due("2 no such place", x.status(), 3);
        x.read(4, 0);
        Due.due("2 no such TRAY", x.status(), 1);
    }

    /** "status(), feed(), fault(), error() have none." */
    private static void callsWithoutStatus() {
        DiscCutter x = new DiscCutter();
        int[] calls = {0, 2};
        for (int due : calls) {
            if (due == 0) {
                x.parts(0);
            } else {
                x.read(0, 0);
            }
            x.feed(1, 2, 3, 4, 5);
            Due.due("2 feed() has none", x.status(), due);
            x.fault(0);
            x.fault(9);
            Due.due("2 fault() has none", x.status(), due);
            x.error(1);
            x.error(-9);
            Due.due("2 error() has none", x.status(), due);
        }
        for (int k = 0; k < 30; k++) {
            x.feed(0, 0, 0, 0, 0);
        }
        Due.due("2 a refused feed() has none", x.feed(0, 0, 0, 0, 0), -1);
        Due.due("2 a refused feed() has none", x.status(), 2);
    }

    // ---- 3

    /** "TRAYS 0 to 3". */
    private static void trays0To3() {
        DiscCutter x = new DiscCutter();
        for (int tray = 0; tray < 4; tray++) {
            Due.due("3 tray " + tray, x, x.tray(tray, 0, 2), 0);
            Due.due("4 tray " + tray, x, x.write(tray, 0, tray), 0);
        }
        for (int tray = 0; tray < 4; tray++) {
            Due.due("5 tray " + tray, x, x.read(tray, 0), tray, 0);
            Due.due("6 tray " + tray, x, x.pour(tray, 0, tray, 1, 1), 0);
            Due.due("7 tray " + tray, x, x.song(tray, 1, 0), tray, 0);
        }
        for (int tray : Bench.NO_TRAYS) {
            Due.due("3 tray " + tray, x, x.tray(tray, 0, 1), 1);
            Due.due("4 tray " + tray, x, x.write(tray, 0, 1), 1);
            Due.due("5 tray " + tray, x, x.read(tray, 0), -1, 1);
            Due.due("6 from tray " + tray, x, x.pour(tray, 0, 0, 0, 1), 1);
            Due.due("6 to tray " + tray, x, x.pour(0, 0, tray, 0, 1), 1);
            Due.due("7 tray " + tray, x, x.song(tray, 1, 0), -1, 1);
        }
    }

    /** "rows of 0 to 60 numbers". */
    private static void rowsOf0To60() {
        DiscCutter x = new DiscCutter();
        int[] wrong = {DEEP, -1, 61, FAR};
        for (int many : wrong) {
            Due.due("3 of " + many, x, x.tray(0, 0, many), 1);
            Due.due("3 it is MISSING still", x, x.read(0, 0), -1, 2);
        }
        Due.due("3 of none", x, x.tray(0, 0, 0), 0);
        Due.due("3 of none: not MISSING, but no place", x, x.read(0, 0), -1, 3);
        Due.due("3 of one", x, x.tray(0, 0, 1), 0);
        Due.due("3 of one: its place", x, x.read(0, 0), 0, 0);
        Due.due("3 of one: no second", x, x.read(0, 1), -1, 3);
        Due.due("3 of 60", x, x.tray(0, 0, 60), 0);
        Due.due("3 of 60: the last", x, x.read(0, 59), 0, 0);
        Due.due("3 of 60: behind it", x, x.read(0, 60), -1, 3);
        for (int many : wrong) {
            Due.due("3 of " + many, x, x.tray(0, 0, many), 1);
            Due.due("3 it is as it was", x, x.read(0, 59), 0, 0);
        }
    }

    /** "8 bits (sort 0), 16 (1), 32 (2) or 64 (3)". */
    private static void sorts0To3() {
        DiscCutter x = new DiscCutter();
        int[] wrong = {DEEP, -1, 4, FAR};
        for (int sort : wrong) {
            Due.due("3 sort " + sort, x, x.tray(1, sort, 1), 1);
            Due.due("3 it is MISSING still", x, x.read(1, 0), -1, 2);
        }
        for (int sort = 0; sort < 4; sort++) {
            Due.due("3 sort " + sort, x, x.tray(1, sort, 1), 0);
        }
        x.write(1, 0, Long.MIN_VALUE);
        Due.due("3 sort 4 again", x, x.tray(1, 4, 1), 1);
        Due.due("3 as it was", x, x.read(1, 0), Long.MIN_VALUE, 0);
    }

    /** "A TRAY is a row of so many 0s". */
    private static void soMany0s() {
        DiscCutter x = new DiscCutter();
        x.tray(2, 1, 60);
        for (int k = 0; k < 60; k++) {
            x.write(2, k, 7);
        }
        x.tray(2, 1, 1);
        Due.due("3 a 0", x, x.read(2, 0), 0, 0);
        x.tray(2, 0, 60);
        for (int k = 0; k < 60; k++) {
            Due.due("3 what was there is gone, " + k, x, x.read(2, k), 0, 0);
        }
    }

    // ---- 4, 5

    /** "are MISSING at first". */
    private static void missingAtFirst() {
        DiscCutter x = new DiscCutter();
        for (int tray = 0; tray < 4; tray++) {
            Due.due("4 MISSING", x, x.write(tray, 0, 1), 2);
            Due.due("4 MISSING, and no place", x, x.write(tray, -1, 1), 2);
            Due.due("5 MISSING", x, x.read(tray, 0), -1, 2);
            Due.due("5 MISSING, and no place", x, x.read(tray, 60), -1, 2);
            Due.due("6 MISSING", x, x.pour(tray, 0, tray, 0, 0), 2);
            Due.due("7 MISSING", x, x.song(tray, 60, 9), -1, 2);
        }
        x.tray(1, 0, 1);
        Due.due("4 the others are", x, x.write(0, 0, 1), 2);
        Due.due("4 the others are", x, x.write(2, 0, 1), 2);
    }

    /** "A number comes to a place of a TRAY, cut to its sort". */
    private static void cutToItsSort() {
        DiscCutter x = new DiscCutter();
        for (int sort = 0; sort < 3; sort++) {
            long top = 1L << (8 << sort) - 1;
            long[] in = {top - 1, top, -top, -top - 1, 2 * top - 1, 2 * top, 2 * top + 1, Long.MAX_VALUE, Long.MIN_VALUE};
            long[] out = {top - 1, -top, -top, top - 1, -1, 0, 1, -1, 0};
            x.tray(sort, sort, 3);
            for (int k = 0; k < in.length; k++) {
                Due.due("4 write " + in[k], x, x.write(sort, 1, in[k]), 0);
                Due.due("5 sort " + sort + " of " + in[k], x, x.read(sort, 1), out[k], 0);
            }
            Due.due("4 ahead of it", x.read(sort, 0), 0);
            Due.due("4 behind it", x.read(sort, 2), 0);
        }
        x.tray(3, 3, 1);
        long[] whole = {Long.MAX_VALUE, Long.MIN_VALUE, 1L << 32, -1, 0};
        for (long v : whole) {
            Due.due("4 write " + v, x, x.write(3, 0, v), 0);
            Due.due("5 of 64 bits", x, x.read(3, 0), v, 0);
        }
    }

    /** "3 a place that the TRAY has not". */
    private static void placesOfATray() {
        DiscCutter x = new DiscCutter();
        int[] lengths = {0, 1, 5, 60};
        for (int many : lengths) {
            x.tray(0, 0, many);
            int[] wrong = {DEEP, -1, many, FAR};
            for (int place : wrong) {
                Due.due("4 place " + place + " of " + many, x, x.write(0, place, 9), 3);
                Due.due("5 place " + place + " of " + many, x, x.read(0, place), -1, 3);
            }
            for (int place = 0; place < many; place += Math.max(1, many - 1)) {
                Due.due("4 what is refused writes nothing", x, x.read(0, place), 0, 0);
                Due.due("4 place " + place + " of " + many, x, x.write(0, place, 9), 0);
                Due.due("5 place " + place + " of " + many, x, x.read(0, place), 9, 0);
            }
        }
    }

    /** "STATUS tells NONE from -1". */
    private static void noneFromMinusOne() {
        DiscCutter x = new DiscCutter();
        for (int sort = 0; sort < 4; sort++) {
            x.tray(sort, sort, 1);
            x.write(sort, 0, -1);
            Due.due("5 a -1", x, x.read(sort, 0), -1, 0);
            Due.due("5 NONE", x, x.read(sort, 1), -1, 3);
        }
    }

    // ---- 6

    private static DiscCutter withRows() {
        DiscCutter x = new DiscCutter();
        x.tray(0, 3, 5);
        x.tray(1, 3, 4);
        for (int k = 0; k < 5; k++) {
            x.write(0, k, 10 + k);
            x.write(1, k, 20 + k);
        }
        return x;
    }

    private static void row(String what, DiscCutter x, int tray, long... due) {
        for (int k = 0; k < due.length; k++) {
            Due.due(what + ", place " + k, x, x.read(tray, k), due[k], 0);
        }
        Due.due(what + ", its end", x, x.read(tray, due.length), -1, 3);
    }

    /** "1: below 0, too". */
    private static void pourBelow0() {
        DiscCutter x = withRows();
        int[] below = {-1, DEEP};
        for (int v : below) {
            Due.due("6 from below 0", x, x.pour(0, v, 1, 0, 1), 1);
            Due.due("6 to below 0", x, x.pour(0, 0, 1, v, 1), 1);
            Due.due("6 fewer than 0", x, x.pour(0, 0, 1, 0, v), 1);
            Due.due("6 both that sum up", x, x.pour(0, v, 1, 0, FAR), 1);
        }
        row("6 as it was", x, 0, 10, 11, 12, 13, 14);
        row("6 as it was", x, 1, 20, 21, 22, 23);
    }

    /** "(1: below 0, too; 2; 8; 3; asked in this order)". */
    private static void pourAskedInThisOrder() {
        DiscCutter x = withRows();
        x.tray(2, 2, 2);
        Due.due("6 1 ahead of 2", x, x.pour(3, 0, 0, -1, 1), 1);
        Due.due("6 1 ahead of 8", x, x.pour(2, -1, 0, 0, 1), 1);
        Due.due("6 1 ahead of 3", x, x.pour(0, 6, 1, -1, 1), 1);
        Due.due("6 from a MISSING one, 2 ahead of 3", x, x.pour(3, 0, 0, 9, 9), 2);
        Due.due("6 to a MISSING one, 2 ahead of 3", x, x.pour(0, 9, 3, 0, 9), 2);
        Due.due("6 8 ahead of 3", x, x.pour(0, 9, 2, 9, 9), 8);
        Due.due("6 8 of none, too", x, x.pour(2, 0, 0, 0, 0), 8);
        Due.due("6 3", x, x.pour(0, 0, 1, 0, 5), 3);
        for (int sort = 0; sort < 4; sort++) {
            x.tray(2, sort, 1);
            for (int other = 0; other < 4; other++) {
                x.tray(3, other, 1);
                Due.due("6 sorts " + sort + ", " + other, x, x.pour(2, 0, 3, 0, 1), sort == other ? 0 : 8);
            }
        }
        row("6 as it was", x, 0, 10, 11, 12, 13, 14);
        row("6 as it was", x, 1, 20, 21, 22, 23);
    }

    /** "So many numbers of a TRAY, from a place on, come to another one's (or its own) place on". */
    private static void pourToTheLastPlace() {
        DiscCutter x = withRows();
        Due.due("6 more than there is room for", x, x.pour(0, 0, 1, 0, 5), 3);
        Due.due("6 more than there is room for", x, x.pour(0, 0, 1, 2, 3), 3);
        Due.due("6 more than there are", x, x.pour(1, 0, 0, 0, 5), 3);
        Due.due("6 more than there are", x, x.pour(1, 2, 0, 0, 3), 3);
        Due.due("6 a place behind its end", x, x.pour(1, 4, 0, 0, 1), 3);
        Due.due("6 a place behind its end", x, x.pour(0, 0, 1, 4, 1), 3);
        Due.due("6 far more", x, x.pour(0, FAR, 0, 0, 1), 3);
        Due.due("6 far more", x, x.pour(0, 0, 0, FAR, 1), 3);
        Due.due("6 far more", x, x.pour(0, 1, 0, 1, FAR), 3);
        Due.due("6 far more", x, x.pour(0, FAR, 0, FAR, FAR), 3);
        row("6 as it was", x, 0, 10, 11, 12, 13, 14);
        row("6 as it was", x, 1, 20, 21, 22, 23);
        Due.due("6 the last one to the last", x, x.pour(0, 4, 1, 3, 1), 0);
        row("6 the last one to the last", x, 1, 20, 21, 22, 14);
        Due.due("6 all of it", x, x.pour(1, 0, 0, 1, 4), 0);
        row("6 all of it", x, 0, 10, 20, 21, 22, 14);
        row("6 what is poured stays", x, 1, 20, 21, 22, 14);
        DiscCutter y = new DiscCutter();
        y.tray(0, 0, 60);
        y.tray(1, 0, 60);
        y.write(0, 0, 5);
        y.write(0, 59, 6);
        Due.due("6 60 numbers", y, y.pour(0, 0, 1, 0, 60), 0);
        Due.due("6 the first", y.read(1, 0), 5);
        Due.due("6 the last", y.read(1, 59), 6);
        Due.due("6 61 numbers", y, y.pour(0, 0, 1, 0, 61), 3);
    }

    /** "as they were". */
    private static void pourAsTheyWere() {
        DiscCutter x = withRows();
        Due.due("6 up in its own", x, x.pour(0, 0, 0, 1, 4), 0);
        row("6 up in its own", x, 0, 10, 10, 11, 12, 13);
        x = withRows();
        Due.due("6 down in its own", x, x.pour(0, 1, 0, 0, 4), 0);
        row("6 down in its own", x, 0, 11, 12, 13, 14, 14);
        x = withRows();
        Due.due("6 onto itself", x, x.pour(0, 0, 0, 0, 5), 0);
        row("6 onto itself", x, 0, 10, 11, 12, 13, 14);
        x.write(0, 0, Long.MIN_VALUE);
        x.write(0, 1, -1);
        Due.due("6 below 0", x, x.pour(0, 0, 1, 2, 2), 0);
        row("6 below 0", x, 1, 20, 21, Long.MIN_VALUE, -1);
    }

    /** "rows of 0 to 60 numbers": what is poured may be none. */
    private static void pourOfNone() {
        DiscCutter x = withRows();
        Due.due("6 none", x, x.pour(0, 0, 1, 0, 0), 0);
        Due.due("6 none, from right behind the end", x, x.pour(0, 5, 1, 4, 0), 0);
        Due.due("6 none, from further off", x, x.pour(0, 6, 1, 0, 0), 3);
        Due.due("6 none, to further off", x, x.pour(0, 0, 1, 5, 0), 3);
        x.tray(2, 3, 0);
        Due.due("6 none to an empty row", x, x.pour(0, 0, 2, 0, 0), 0);
        Due.due("6 one to an empty row", x, x.pour(0, 0, 2, 0, 1), 3);
        row("6 as it was", x, 1, 20, 21, 22, 23);
    }

    // ---- 7

    /** "of 1 to 60 PARTS", "the first so many (1 to 60) numbers". */
    private static void songOf1To60() {
        DiscCutter x = new DiscCutter();
        x.tray(0, 0, 60);
        int[] wrong = {DEEP, -1, 0, 61, FAR};
        for (int many : wrong) {
            Due.due("7 of " + many, x, x.song(0, many, 0), -1, 1);
        }
        Due.due("7 none has come", x, x.told(0, 0), -1, 1);
        Due.due("7 of 1", x, x.song(0, 1, 0), 0, 0);
        Due.due("7 of 60", x, x.song(0, 60, 0), 1, 0);
        Due.due("8 1", x, x.told(0, 0), 1, 0);
        Due.due("8 60", x, x.told(1, 0), 60, 0);
        x.tray(0, 0, 59);
        Due.due("7 of 60 by 59", x, x.song(0, 60, 0), -1, 3);
        Due.due("7 of 59 by 59", x, x.song(0, 59, 0), 2, 0);
        x.tray(0, 0, 0);
        Due.due("7 of 1 by none", x, x.song(0, 1, 0), -1, 3);
    }

    /** "HIGH (0 to 9)". */
    private static void highOf0To9() {
        DiscCutter x = new DiscCutter();
        x.tray(0, 0, 1);
        int[] wrong = {DEEP, -1, 10, FAR};
        for (int high : wrong) {
            Due.due("7 HIGH " + high, x, x.song(0, 1, high), -1, 1);
        }
        Due.due("7 HIGH 0", x, x.song(0, 1, 0), 0, 0);
        Due.due("7 HIGH 9", x, x.song(0, 1, 9), 1, 0);
        Due.due("8 HIGH 0", x, x.told(0, 1), 0, 0);
        Due.due("8 HIGH 9", x, x.told(1, 1), 9, 0);
    }

    /** "each with a LEVEL (0 to 40)": the first and the last one, too. */
    private static void levelsOf0To40() {
        DiscCutter x = new DiscCutter();
        x.tray(0, 1, 3);
        for (int place = 0; place < 3; place++) {
            int[] wrong = {-1, 41, Short.MAX_VALUE, Short.MIN_VALUE};
            for (int level : wrong) {
                x.write(0, place, level);
                Due.due("7 LEVEL " + level + " at " + place, x, x.song(0, 3, 0), -1, 1);
            }
            x.write(0, place, 40);
            Due.due("7 LEVEL 40 at " + place, x, x.song(0, 3, 0), 2 * place, 0);
            x.write(0, place, 0);
            Due.due("7 LEVEL 0 at " + place, x, x.song(0, 3, 0), 2 * place + 1, 0);
        }
    }

    /** "numbers of 8 bits (sort 0), 16 (1), 32 (2) or 64 (3)": a LEVEL is the whole number. */
    private static void levelsOfEachSort() {
        DiscCutter x = new DiscCutter();
        for (int sort = 0; sort < 4; sort++) {
            x.tray(sort, sort, 1);
            x.write(sort, 0, 40 + (1L << 32));
            Due.due("7 sort " + sort, x, x.song(sort, 1, 0), sort < 3 ? sort : -1, sort < 3 ? 0 : 1);
        }
        long[] wrong = {Long.MAX_VALUE, Long.MIN_VALUE, 1L << 63 | 5, 256 + 5};
        for (long v : wrong) {
            x.write(3, 0, v);
            Due.due("7 of 64 bits, " + v, x, x.song(3, 1, 0), -1, 1);
        }
        x.write(0, 0, 256 + 5);
        Due.due("7 of 8 bits, cut to 5", x, x.song(0, 1, 0), 3, 0);
        Due.due("8 of 8 bits, cut to 5", x, x.told(3, 2), 5, 0);
    }

    /** "its LEVELS the first so many (1 to 60) numbers of a TRAY". */
    private static void theFirstSoMany() {
        DiscCutter x = new DiscCutter();
        x.tray(0, 0, 3);
        x.write(0, 0, 11);
        x.write(0, 1, 12);
        x.write(0, 2, 41);
        Due.due("7 what is behind them isn't asked", x, x.song(0, 2, 0), 0, 0);
        x.write(0, 0, 1);
        x.tray(0, 3, 0);
        x.lay(0, 0);
        Due.due("7 a SONG keeps its LEVELS", x.level(0, 0), 11);
        Due.due("7 a SONG keeps its LEVELS", x.level(0, 1), 12);
        Due.due("7 no more than those", x, x.level(0, 2), -1, 1);
    }

    /** "(1; 2; 3; 1: a LEVEL; 4; asked in this order)". */
    private static void songAskedInThisOrder() {
        DiscCutter x = new DiscCutter();
        Due.due("7 many ahead of MISSING", x, x.song(0, 0, 0), -1, 1);
        Due.due("7 HIGH ahead of MISSING", x, x.song(0, 1, 10), -1, 1);
        Due.due("7 MISSING", x, x.song(0, 60, 0), -1, 2);
        x.tray(0, 0, 2);
        x.write(0, 0, 41);
        Due.due("7 HIGH ahead of too few", x, x.song(0, 3, -1), -1, 1);
        Due.due("7 too few ahead of a LEVEL", x, x.song(0, 3, 0), -1, 3);
        x.tray(1, 0, 2);
        for (int k = 0; k < 10; k++) {
            x.song(1, 2, 0);
        }
        Due.due("7 HIGH ahead of one too many", x, x.song(1, 2, 10), -1, 1);
        Due.due("7 MISSING ahead of one too many", x, x.song(2, 2, 0), -1, 2);
        Due.due("7 too few ahead of one too many", x, x.song(1, 3, 0), -1, 3);
        Due.due("7 a LEVEL ahead of one too many", x, x.song(0, 2, 0), -1, 1);
        Due.due("7 one too many", x, x.song(1, 2, 0), -1, 4);
    }

    /** "SONGS, at most 10, numbered as they come". */
    private static void songsAtMostTen() {
        DiscCutter x = new DiscCutter();
        x.tray(0, 0, 60);
        for (int k = 0; k < 10; k++) {
            Due.due("8 not there yet", x, x.told(k, 0), -1, 1);
            Due.due("7 a refused one takes no number", x, x.song(0, 61, 0), -1, 1);
            x.write(0, 0, 10 + k);
            Due.due("7 the number", x, x.song(0, 60 - k, k), k, 0);
        }
        Due.due("7 an eleventh", x, x.song(0, 1, 0), -1, 4);
        Due.due("8 there is no SONG 10", x, x.told(10, 0), -1, 1);
        for (int k = 0; k < 10; k++) {
            Due.due("8 PARTS of " + k, x, x.told(k, 0), 60 - k, 0);
            Due.due("8 HIGH of " + k, x, x.told(k, 1), k, 0);
            Due.due("8 LEVEL of " + k, x, x.told(k, 2), 10 + k, 0);
        }
    }

    // ---- 8

    /** "what 0: how many PARTS, 1: HIGH, 2: the greatest LEVEL (1)". */
    private static void toldOfASong() {
        DiscCutter x = new DiscCutter();
        Due.due("8 no SONG at all", x, x.told(0, 0), -1, 1);
        Bench.song(x, 7, 3, 4);
        Due.due("8 what 0", x, x.told(0, 0), 2, 0);
        Due.due("8 what 1", x, x.told(0, 1), 7, 0);
        Due.due("8 what 2", x, x.told(0, 2), 4, 0);
        int[] wrong = {DEEP, -1, 3, FAR};
        for (int what : wrong) {
            Due.due("8 what " + what, x, x.told(0, what), -1, 1);
        }
        int[] none = {DEEP, -1, 1, FAR};
        for (int song : none) {
            Due.due("8 SONG " + song, x, x.told(song, 0), -1, 1);
        }
    }

    /** "2: the greatest LEVEL": at the first, at the last, of like ones, of silent ones. */
    private static void theGreatestLevel() {
        DiscCutter x = new DiscCutter();
        Bench.song(x, 0, 40, 1, 2);
        Bench.song(x, 0, 1, 2, 39);
        Bench.song(x, 0, 5, 5);
        Bench.flat(x, 0, 60, 0);
        Bench.song(x, 0, 1);
        int[] due = {40, 39, 5, 0, 1};
        for (int k = 0; k < due.length; k++) {
            Due.due("8 the greatest of " + k, x, x.told(k, 2), due[k], 0);
        }
    }

    // ---- 9

    /** "LAND (1 to 20; ..): what must be left between two grooves." */
    private static void landOf1To20() {
        DiscCutter x = new DiscCutter();
        Bench.silent(x, 0, 9);
        int[] wrong = {DEEP, -1, 0, 21, FAR};
        for (int land : wrong) {
            Due.due("9 LAND " + land, x, x.rules(land, 20), 1);
            Due.due("9 LAND stays 4", x, x.place(0, 8), 4, 0);
        }
        Due.due("9 LAND 1", x, x.rules(1, 8), 0);
        Due.due("9 LAND 1", x, x.place(0, 8), 1, 0);
        Due.due("9 LAND 20", x, x.rules(20, 8), 0);
        Due.due("9 LAND 20", x, x.place(0, 8), 20, 0);
    }

    /** "FEED (1 to 20; ..): by how much the middle may move, at most"; a refused FEED leaves LAND, too. */
    private static void feedOf1To20() {
        DiscCutter x = new DiscCutter();
        Bench.flat(x, 0, 9, 40);
        x.lay(0, 0);
        int[] wrong = {DEEP, -1, 0, 21, FAR};
        for (int feed : wrong) {
            x.rules(20, 20);
            Due.due("9 FEED " + feed, x, x.rules(1, feed), 1);
            Due.due("9 LAND stays 20", x, x.place(0, 8), 100, 0);
            Due.due("9 FEED stays 20", x, x.place(0, 7), 80, 0);
        }
        Bench.silent(x, 1, 9);
        Due.due("9 FEED 1", x, x.rules(8, 1), 0);
        for (int k = 0; k < 9; k++) {
            Due.due("9 FEED 1, PART " + k, x, x.place(1, k), k, 0);
        }
        Due.due("9 FEED 1, LAND 9", x, x.rules(9, 1), 0);
        Due.due("9 it CAN'T be", x, x.place(1, 0), -1, 5);
    }
}
