/** Each promise by its number: ordinary inputs, the edges that the document names, wrong inputs. */
public final class PromisesTest {
    public static void main(String[] args) {
        newObject();
        status();
        tray();
        write();
        pour();
        song();
        rules();
        anew();
        leadAndLay();
        level();
        place();
        roomAndTight();
        cannotAndSofter();
        soften();
        most();
        order();
        orderOfEquals();
        press();
        ring();
        inTime();
        click();
        longest();
        cover();
        lock();
        knock();
        heard();
        heardInRing();
        missed();
        beside();
        Due.end();
    }

    // ---- 1, 2

    private static void newObject() {
        DiscCutter x = new DiscCutter();
        Due.due("1 status()", x.status(), 0);
        Due.due("1 NONE", DiscCutter.NONE, -1);
        Due.due("1 told(0, 0)", x, x.told(0, 0), -1, 1);
        Due.due("1 parts(0)", x, x.parts(0), 0, 0);
        Due.due("1 parts(1)", x, x.parts(1), 0, 0);
        Due.due("1 longest()", x, x.longest(), -1, 6);
        Due.due("1 locked(0)", x, x.locked(0), -1, 6);
        for (int tray = 0; tray < 4; tray++) {
            Due.due("1 read(tray, 0)", x, x.read(tray, 0), -1, 2);
        }
        Due.due("1 run()", x, x.run(), -1, 9);
        Due.due("1 mark(0, 0)", x, x.mark(0, 0), -1, 6);
        Due.due("1 roomBeside()", x, x.roomBeside(), 0, 0);
    }

    private static void status() {
        DiscCutter x = new DiscCutter();
        x.parts(2);
        Due.due("2 status()", x.status(), 1);
        Due.due("2 status() again", x.status(), 1);
        x.feed(0, 0, 0, 0, 0);
        x.fault(0);
        x.error(0);
        Due.due("2 status() behind calls that have none", x.status(), 1);
        x.parts(0);
        Due.due("2 status()", x.status(), 0);
    }

    // ---- 3 to 6

    private static void tray() {
        DiscCutter x = new DiscCutter();
        Due.due("3 tray(0, 0, 60)", x, x.tray(0, 0, 60), 0);
        Due.due("3 tray(3, 3, 0)", x, x.tray(3, 3, 0), 0);
        Due.due("3 read(0, 59)", x, x.read(0, 59), 0, 0);
        Due.due("3 read(3, 0)", x, x.read(3, 0), -1, 3);
        Due.due("3 tray(-1, 0, 1)", x, x.tray(-1, 0, 1), 1);
        Due.due("3 tray(4, 0, 1)", x, x.tray(4, 0, 1), 1);
        Due.due("3 tray(0, -1, 1)", x, x.tray(0, -1, 1), 1);
        Due.due("3 tray(0, 4, 1)", x, x.tray(0, 4, 1), 1);
        Due.due("3 tray(0, 0, -1)", x, x.tray(0, 0, -1), 1);
        Due.due("3 tray(0, 0, 61)", x, x.tray(0, 0, 61), 1);
        x.write(0, 59, 7);
        Due.due("3 a refused tray() leaves it", x.read(0, 59), 7);
        x.tray(0, 1, 60);
        Due.due("3 read(0, 59) of a new row", x, x.read(0, 59), 0, 0);
    }

    private static void write() {
        DiscCutter x = new DiscCutter();
        Due.due("4 write(0, 0, 1) to a MISSING one", x, x.write(0, 0, 1), 2);
        Due.due("4 write(4, 0, 1)", x, x.write(4, 0, 1), 1);
        Due.due("4 write(-1, 0, 1)", x, x.write(-1, 0, 1), 1);
        long v = 0x8123456789abcdefL;
        long[] cut = {(byte) v, (short) v, (int) v, v};
        for (int sort = 0; sort < 4; sort++) {
            x.tray(sort, sort, 2);
            Due.due("4 write", x, x.write(sort, 1, v), 0);
            Due.due("5 read of sort " + sort, x, x.read(sort, 1), cut[sort], 0);
            Due.due("5 read beside it", x, x.read(sort, 0), 0, 0);
            x.write(sort, 0, -1);
            Due.due("5 read(sort, 0)", x, x.read(sort, 0), -1, 0);
        }
        Due.due("4 write(0, 2, 1)", x, x.write(0, 2, 1), 3);
        Due.due("4 write(0, -1, 1)", x, x.write(0, -1, 1), 3);
        Due.due("5 read(0, 2)", x, x.read(0, 2), -1, 3);
        Due.due("5 read(0, MIN)", x, x.read(0, Bench.DEEP), -1, 3);
        Due.due("5 read(4, 0)", x, x.read(4, 0), -1, 1);
    }

    private static void pour() {
        DiscCutter x = new DiscCutter();
        x.tray(0, 2, 4);
        for (int k = 0; k < 4; k++) {
            x.write(0, k, 10 + k);
        }
        Due.due("6 pour up its own", x, x.pour(0, 0, 0, 1, 3), 0);
        Due.due("6 read(0, 0)", x.read(0, 0), 10);
        Due.due("6 read(0, 1)", x.read(0, 1), 10);
        Due.due("6 read(0, 3)", x.read(0, 3), 12);
        Due.due("6 pour down its own", x, x.pour(0, 1, 0, 0, 3), 0);
        Due.due("6 read(0, 2)", x.read(0, 2), 12);
        Due.due("6 none behind the end", x, x.pour(0, 4, 0, 4, 0), 0);
        Due.due("6 place below 0 ahead of MISSING", x, x.pour(0, -1, 1, 0, 1), 1);
        Due.due("6 at below 0", x, x.pour(0, 0, 0, -1, 1), 1);
        Due.due("6 many below 0", x, x.pour(0, 0, 0, 0, -1), 1);
        Due.due("6 no such TRAY", x, x.pour(4, 0, 0, 0, 1), 1);
        Due.due("6 no such TRAY", x, x.pour(0, 0, -1, 0, 1), 1);
        Due.due("6 MISSING ahead of a place", x, x.pour(0, 9, 1, 0, 1), 2);
        Due.due("6 MISSING from", x, x.pour(1, 0, 0, 0, 1), 2);
        x.tray(1, 3, 60);
        Due.due("6 unlike sorts ahead of a place", x, x.pour(0, 9, 1, 0, 1), 8);
        x.tray(1, 2, 2);
        Due.due("6 too few there", x, x.pour(0, 0, 1, 0, 3), 3);
        Due.due("6 too few here", x, x.pour(1, 0, 0, 0, 3), 3);
        Due.due("6 great numbers", x, x.pour(0, Bench.FAR, 1, Bench.FAR, Bench.FAR), 3);
        Due.due("6 pour to another", x, x.pour(0, 2, 1, 0, 2), 0);
        Due.due("6 read(1, 0)", x.read(1, 0), 12);
    }

    // ---- 7 to 9

    private static void song() {
        DiscCutter x = new DiscCutter();
        Due.due("7 song(4, 1, 0)", x, x.song(4, 1, 0), -1, 1);
        Due.due("7 song(0, 61, 0)", x, x.song(0, 61, 0), -1, 1);
        Due.due("7 song(0, 1, -1)", x, x.song(0, 1, -1), -1, 1);
        Due.due("7 a MISSING tray", x, x.song(0, 1, 0), -1, 2);
        x.tray(0, 3, 3);
        x.write(0, 0, 1L << 32);
        Due.due("7 too few ahead of a LEVEL", x, x.song(0, 4, 0), -1, 3);
        Due.due("7 a LEVEL too great", x, x.song(0, 3, 0), -1, 1);
        x.write(0, 0, -1);
        Due.due("7 a LEVEL below 0", x, x.song(0, 3, 0), -1, 1);
        x.write(0, 0, 40);
        x.write(0, 2, 41);
        for (int k = 0; k < 10; k++) {
            Due.due("7 song " + k, x, x.song(0, 2, k), k, 0);
        }
        Due.due("7 a LEVEL ahead of one too many", x, x.song(0, 3, 0), -1, 1);
        Due.due("7 an eleventh", x, x.song(0, 2, 0), -1, 4);
        Due.due("8 told(9, 0)", x, x.told(9, 0), 2, 0);
        Due.due("8 told(9, 1)", x, x.told(9, 1), 9, 0);
        Due.due("8 told(9, 2)", x, x.told(9, 2), 40, 0);
        Due.due("8 told(9, 3)", x, x.told(9, 3), -1, 1);
        Due.due("8 told(9, -1)", x, x.told(9, -1), -1, 1);
        Due.due("8 told(10, 0)", x, x.told(10, 0), -1, 1);
        Due.due("8 told(-1, 0)", x, x.told(-1, 0), -1, 1);
        DiscCutter silent = new DiscCutter();
        Bench.flat(silent, 0, 60, 0);
        Due.due("8 a silent SONG", silent, silent.told(0, 2), 0, 0);
        x.write(0, 0, 3);
        Due.due("8 a SONG keeps its LEVELS", x.told(9, 2), 40);
    }

    private static void rules() {
        DiscCutter x = new DiscCutter();
        Bench.flat(x, 0, 9, 5);
        x.lay(0, 0);
        Due.due("9 at first", x.place(0, 8), 14);
        Due.due("9 rules(20, 20)", x, x.rules(20, 20), 0);
        Due.due("9 place(0, 8)", x.place(0, 8), 30);
        Due.due("9 place(0, 7)", x.place(0, 7), 10);
        Due.due("9 rules(0, 1)", x, x.rules(0, 1), 1);
        Due.due("9 rules(21, 1)", x, x.rules(21, 1), 1);
        Due.due("9 rules(1, 0)", x, x.rules(1, 0), 1);
        Due.due("9 rules(1, 21)", x, x.rules(1, 21), 1);
        Due.due("9 a refused one leaves them", x.place(0, 8), 30);
        Due.due("9 rules(1, 1)", x, x.rules(1, 1), 0);
        Due.due("9 cannot(0)", x, x.cannot(0), 8, 0);
    }

    // ---- 10 to 14

    private static void anew() {
        DiscCutter x = new DiscCutter();
        Bench.flat(x, 0, 8, 5);
        x.lay(1, 0);
        x.lock(1, 0);
        Due.due("10 anew(2)", x, x.anew(2), 1);
        Due.due("10 anew(-1)", x, x.anew(-1), 1);
        Due.due("10 anew(0)", x, x.anew(0), 0);
        Due.due("10 the other SIDE stays", x.parts(1), 8);
        Due.due("10 anew(1)", x, x.anew(1), 0);
        Due.due("10 parts(1)", x, x.parts(1), 0, 0);
        Due.due("10 locked(1)", x, x.locked(1), -1, 6);
        Due.due("10 lay(1, 0)", x, x.lay(1, 0), 0);
    }

    private static void leadAndLay() {
        DiscCutter x = new DiscCutter();
        Bench.flat(x, 0, 60, 1);
        Bench.song(x, 0, 1, 2, 3, 4, 5, 6, 7, 8);
        Due.due("11 lead(2, 1)", x, x.lead(2, 1), 1);
        Due.due("11 lead(0, 0)", x, x.lead(0, 0), 1);
        Due.due("11 lead(0, 101)", x, x.lead(0, 101), 1);
        for (int k = 0; k < 4; k++) {
            Due.due("11 lead(0, 100)", x, x.lead(0, 100), 0);
        }
        Due.due("11 a part more than 400", x, x.lead(0, 1), 4);
        Due.due("12 lay on a full SIDE", x, x.lay(0, 1), 4);
        Due.due("13 parts(0)", x, x.parts(0), 400, 0);
        Due.due("13 parts(2)", x, x.parts(2), -1, 1);
        Due.due("33 lock(0, 1)", x, x.lock(0, 1), 0);
        Due.due("11 one too many ahead of LOCKED", x, x.lead(0, 1), 4);
        Due.due("12 one too many ahead of LOCKED", x, x.lay(0, 1), 4);
        Due.due("12 lay(0, 2)", x, x.lay(0, 2), 1);
        Due.due("12 lay(0, -1)", x, x.lay(0, -1), 1);
        Due.due("12 lay(2, 0)", x, x.lay(2, 0), 1);
        Due.due("12 lay(1, 1)", x, x.lay(1, 1), 0);
        Due.due("33 lock(1, 1)", x, x.lock(1, 1), 0);
        Due.due("11 lead on a LOCKED one", x, x.lead(1, 100), 7);
        Due.due("12 lay on a LOCKED one", x, x.lay(1, 0), 7);
        Due.due("13 the RING is none of its PARTS", x, x.parts(1), 8, 0);
    }

    private static void level() {
        DiscCutter x = new DiscCutter();
        Bench.song(x, 0, 1, 2, 3, 40);
        x.lead(1, 2);
        x.lay(1, 0);
        int[] due = {0, 0, 1, 2, 3, 40};
        for (int k = 0; k < due.length; k++) {
            Due.due("14 level(1, " + k + ")", x, x.level(1, k), due[k], 0);
        }
        Due.due("14 level(1, 6)", x, x.level(1, 6), -1, 1);
        Due.due("14 level(1, -1)", x, x.level(1, -1), -1, 1);
        Due.due("14 level(0, 0)", x, x.level(0, 0), -1, 1);
        Due.due("14 level(2, 0)", x, x.level(2, 0), -1, 1);
    }

    // ---- 15 to 20

    private static void place() {
        DiscCutter x = new DiscCutter();
        Bench.song(x, 0, 0, 0, 0, 0, 0, 0, 0, 0, 0, 0, 0, 40, 0, 0);
        x.lay(0, 0);
        x.rules(4, 6);
        // PART 11 must be 44 off PART 3: it pulls those ahead up, 6 at each
        int[] due = {0, 0, 0, 0, 2, 8, 14, 20, 26, 32, 38, 44, 44, 44};
        for (int k = 0; k < due.length; k++) {
            Due.due("15 place(0, " + k + ")", x, x.place(0, k), due[k], 0);
        }
        Due.due("15 place(0, 14)", x, x.place(0, 14), -1, 1);
        Due.due("15 place(2, 0)", x, x.place(2, 0), -1, 1);
        x.rules(9, 6);
        Due.due("15 it CAN'T be cut", x, x.place(0, 0), -1, 5);
        Due.due("15 no such PART ahead of that", x, x.place(0, 14), -1, 1);
        x.rules(8, 6);
        Due.due("15 just so", x, x.place(0, 4), 6, 0);
        Due.due("15 just so", x, x.place(0, 3), 0, 0);
    }

    private static void roomAndTight() {
        DiscCutter x = new DiscCutter();
        Due.due("16 room(0)", x, x.room(0), 0, 0);
        Due.due("16 room(2)", x, x.room(2), -1, 1);
        Bench.song(x, 0, 9, 0, 0, 0, 0, 0, 0, 0, 1, 2);
        x.lay(0, 0);
        Due.due("16 room(0)", x, x.room(0), 16, 0);
        Due.due("17 tight(0, 0)", x, x.tight(0, 0), 8, 0);
        Due.due("17 tight(0, 1)", x, x.tight(0, 1), -1, 6);
        Due.due("17 tight(0, -1)", x, x.tight(0, -1), -1, 6);
        Due.due("17 tight(2, 0)", x, x.tight(2, 0), -1, 1);
        Due.due("17 tight(1, 0) of an empty one", x, x.tight(1, 0), -1, 6);
        x.rules(20, 3);
        Due.due("16 room(0) that CAN'T be", x, x.room(0), -1, 5);
        Due.due("17 tight(0, -1) that CAN'T be", x, x.tight(0, -1), -1, 5);
    }

    private static void cannotAndSofter() {
        DiscCutter x = new DiscCutter();
        Due.due("18 cannot(0)", x, x.cannot(0), -1, 6);
        Due.due("18 cannot(2)", x, x.cannot(2), -1, 1);
        Due.due("19 softer(-1)", x, x.softer(-1), -1, 1);
        Bench.song(x, 0, 0, 0, 40, 0, 0, 0, 0, 0, 0, 0, 30, 0);
        x.lay(0, 0);
        x.rules(4, 9);
        Due.due("18 cannot(0)", x, x.cannot(0), 10, 0);
        Due.due("19 softer(0): 38 and 30, and 4 is 72", x, x.softer(0), 40 - 38, 0);
        x.rules(4, 4);
        Due.due("19 softer(0): twice 14, and 4", x, x.softer(0), 26, 0);
        x.rules(8, 1);
        Due.due("19 softer(0): none at all", x, x.softer(0), 40, 0);
        x.rules(9, 1);
        Due.due("19 LAND alone", x, x.softer(0), -1, 6);
        Due.due("18 the first", x, x.cannot(0), 8, 0);
        x.lead(1, 8);
        Due.due("19 of 8 PARTS", x, x.softer(1), 0, 0);
        Due.due("18 of 8 PARTS", x, x.cannot(1), -1, 6);
        x.lead(1, 1);
        Due.due("19 of 9 PARTS", x, x.softer(1), -1, 6);
    }

    private static void soften() {
        DiscCutter x = new DiscCutter();
        Bench.song(x, 0, 1, 2, 3, 4, 5, 6, 7, 8);
        x.lay(0, 0);
        x.lock(0, 0);
        int ring = x.ring(0, 0);
        Due.due("20 soften(0, -1)", x, x.soften(0, -1), -1, 1);
        Due.due("20 soften(0, 41)", x, x.soften(0, 41), -1, 1);
        Due.due("20 soften(2, 0)", x, x.soften(2, 0), -1, 1);
        Due.due("20 soften(1, 0) of an empty one", x, x.soften(1, 0), 0, 0);
        Due.due("20 soften(0, 8)", x, x.soften(0, 8), 0, 0);
        Due.due("20 soften(0, 6)", x, x.soften(0, 6), 2, 0);
        Due.due("20 level(0, 7)", x.level(0, 7), 6);
        Due.due("20 level(0, 5)", x.level(0, 5), 6);
        Due.due("20 the SONG stays", x.told(0, 2), 8);
        Due.due("20 the RING's LEVELS stay", x.ring(0, 0), ring - 2);
        Due.due("20 soften(0, 0)", x, x.soften(0, 0), 8, 0);
    }

    // ---- 21 to 25

    private static void most() {
        DiscCutter x = new DiscCutter();
        Due.due("21 most(0)", x, x.most(0), 1);
        Due.due("21 most(401)", x, x.most(401), 1);
        for (int k = 0; k < 7; k++) {
            Bench.flat(x, 0, 60, 1);
        }
        Due.due("21 at first 200: three on each", x, x.order(), -1, 5);
        Due.due("21 most(239)", x, x.most(239), 0);
        Due.due("22 order()", x, x.order(), -1, 5);
        Due.due("23 sideOf(0)", x, x.sideOf(0), -1, 5);
        Due.due("23 no such SONG ahead of that", x, x.sideOf(7), -1, 1);
        Due.due("24 songAt(0, -1)", x, x.songAt(0, -1), -1, 5);
        Due.due("24 songAt(2, 0)", x, x.songAt(2, 0), -1, 1);
        Due.due("25 press()", x, x.press(), 5);
        Due.due("21 most(240)", x, x.most(240), 0);
        Due.due("22 order()", x, x.order(), 0, 0);
        Due.due("21 most(400)", x, x.most(400), 0);
        Due.due("21 most(1)", x, x.most(1), 0);
        Due.due("22 order()", x, x.order(), -1, 5);
    }

    private static void order() {
        DiscCutter x = new DiscCutter();
        Due.due("22 without SONGS", x, x.order(), 0, 0);
        Bench.flat(x, 1, 10, 1);
        Bench.flat(x, 3, 20, 1);
        Bench.flat(x, 9, 30, 1);
        // 1 by 10, 3 by 20, 9 by 30: 2 comes first, 1 ahead of 0
        Due.due("22 order()", x, x.order(), 20, 0);
        Due.due("23 sideOf(0)", x, x.sideOf(0), 0, 0);
        Due.due("23 sideOf(1)", x, x.sideOf(1), 0, 0);
        Due.due("23 sideOf(2)", x, x.sideOf(2), 1, 0);
        Due.due("23 sideOf(3)", x, x.sideOf(3), -1, 1);
        Due.due("23 sideOf(-1)", x, x.sideOf(-1), -1, 1);
        Due.due("24 songAt(0, 0)", x, x.songAt(0, 0), 1, 0);
        Due.due("24 songAt(0, 1)", x, x.songAt(0, 1), 0, 0);
        Due.due("24 songAt(0, 2)", x, x.songAt(0, 2), -1, 6);
        Due.due("24 songAt(1, 0)", x, x.songAt(1, 0), 2, 0);
        Due.due("24 songAt(1, -1)", x, x.songAt(1, -1), -1, 6);
        x.most(30);
        Due.due("22 order() again", x, x.order(), 20, 0);
        Bench.flat(x, 9, 1, 1);
        Due.due("22 a SONG more is asked for", x, x.order(), -1, 5);
        x.most(31);
        // 3, 1, 0: 3 times 1 and 1 times 21; 2 alone
        Due.due("22 order() of four", x, x.order(), 24, 0);
        Due.due("24 songAt(0, 0)", x, x.songAt(0, 0), 3, 0);
        Due.due("24 songAt(0, 2)", x, x.songAt(0, 2), 0, 0);
        Due.due("24 songAt(1, 0)", x, x.songAt(1, 0), 2, 0);
    }

    private static void orderOfEquals() {
        DiscCutter x = new DiscCutter();
        Bench.flat(x, 2, 4, 1);
        Bench.flat(x, 1, 2, 1);
        Bench.flat(x, 0, 5, 1);
        Bench.flat(x, 2, 4, 1);
        // 0, 1 and 3 have the like HIGH by PARTS
        Due.due("22 order()", x, x.order(), 4, 0);
        Due.due("23 SONG 0 on SIDE 0", x, x.sideOf(0), 0, 0);
        Due.due("23 SONG 1 on SIDE 0", x, x.sideOf(1), 0, 0);
        Due.due("23 SONG 2 on SIDE 0", x, x.sideOf(2), 0, 0);
        Due.due("23 SONG 3 on SIDE 1", x, x.sideOf(3), 1, 0);
        Due.due("24 the lesser SONG first", x, x.songAt(0, 0), 0, 0);
        Due.due("24 the lesser SONG first", x, x.songAt(0, 1), 1, 0);
        Due.due("24 no HIGH: last", x, x.songAt(0, 2), 2, 0);
    }

    private static void press() {
        DiscCutter x = new DiscCutter();
        Bench.song(x, 1, 1, 2, 3, 4, 5, 6, 7, 8);
        Bench.song(x, 9, 9, 8);
        Bench.song(x, 9, 7);
        x.lead(0, 5);
        x.lay(1, 0);
        x.lock(1, 0);
        Due.due("25 press()", x, x.press(), 0);
        int[][] due = {{7, 1, 2, 3, 4, 5, 6, 7, 8}, {9, 8}};
        for (int side = 0; side < 2; side++) {
            Due.due("25 parts", x, x.parts(side), due[side].length, 0);
            for (int k = 0; k < due[side].length; k++) {
                Due.due("25 level(" + side + ", " + k + ")", x.level(side, k), due[side][k]);
            }
        }
        Due.due("25 not LOCKED", x, x.locked(1), -1, 6);
        Due.due("38 songHeard(0, 0)", x, x.songHeard(0, 0), 2, 0);
        Due.due("38 songHeard(0, 1)", x, x.songHeard(0, 1), 0, 0);
    }

    // ---- 26, 27

    private static void ring() {
        DiscCutter x = new DiscCutter();
        Bench.song(x, 0, 1, 2, 3, 4, 5, 6, 7, 8);
        Bench.flat(x, 0, 7, 1);
        Bench.song(x, 0, 30, 0, 0, 0);
        Due.due("26 an empty SIDE", x, x.ring(0, 0), -1, 6);
        Due.due("26 too short a SONG", x, x.ring(0, 1), -1, 1);
        Due.due("26 no such SONG", x, x.ring(0, 3), -1, 1);
        Due.due("26 no such SONG", x, x.ring(0, -1), -1, 1);
        Due.due("26 no such SIDE", x, x.ring(2, 0), -1, 1);
        x.lay(0, 2);
        // PARTS 0 to 3 lie 8 ahead of the RING's last four: 30 and 5, and 4
        Due.due("26 ring(0, 0)", x, x.ring(0, 0), 39, 0);
        x.lead(0, 5);
        // PART 8 lies at 34, ahead of the RING's last one: 0 and 8, and 4
        Due.due("26 nine PARTS", x, x.ring(0, 0), 46, 0);
        x.anew(1);
        x.lead(1, 1);
        x.lay(1, 1);
        Bench.song(x, 0, 40, 0, 0, 0, 0, 0, 0, 0);
        Bench.song(x, 0, 0, 0, 0, 0, 0, 0, 0, 40);
        Due.due("26 the RING's first PART: 0 and 40, and 4", x, x.ring(1, 3), 44, 0);
        Due.due("26 the RING's last PART: 1 and 40, and 4", x, x.ring(1, 4), 45, 0);
        x.rules(4, 4);
        Due.due("26 it CAN'T be cut", x, x.ring(0, 0), -1, 5);
        x.anew(0);
        x.rules(1, 20);
        x.lay(0, 2);
        x.lay(0, 2);
        x.lay(0, 2);
        Due.due("26 not less than the last PART", x, x.ring(0, 0) >= x.place(0, 11) ? 1 : 0, 1, 0);
    }

    private static void inTime() {
        DiscCutter x = new DiscCutter();
        int[] due = {-1, 1, 1, 0, 1, 0, 0, 0, 1, -1};
        for (int beat = 0; beat < 10; beat++) {
            Due.due("27 inTime(" + beat + ")", x, x.inTime(beat), due[beat], due[beat] < 0 ? 1 : 0);
        }
        Due.due("27 inTime(MIN)", x, x.inTime(Bench.DEEP), -1, 1);
    }

    // ---- 28 to 32

    private static void click() {
        DiscCutter x = new DiscCutter();
        Due.due("28 click(-1, 0)", x, x.click(-1, 0), 1);
        Due.due("28 click(100, 0)", x, x.click(100, 0), 1);
        Due.due("28 click(0, -1)", x, x.click(0, -1), 1);
        Due.due("28 click(0, 8)", x, x.click(0, 8), 1);
        for (int k = 0; k < 16; k++) {
            Due.due("28 click", x, x.click(99 - k / 8, k % 8), 0);
            if (k < 15) {
                Due.due("28 it is there already", x, x.click(99 - k / 8, k % 8), 7);
            }
        }
        Due.due("28 one too many ahead of there already", x, x.click(99, 0), 4);
        Due.due("29 clean()", x, x.clean(), 0);
        Due.due("28 click(99, 0)", x, x.click(99, 0), 0);
        Due.due("30 longest()", x, x.longest(), 1, 0);
    }

    private static void longest() {
        DiscCutter x = new DiscCutter();
        Due.due("31 line(3) without CLICKS", x, x.line(3), -1, 1);
        Due.due("31 line(0) without CLICKS", x, x.line(0), -1, 6);
        int[][] clicks = {{6, 1}, {5, 0}, {4, 7}, {50, 3}, {51, 3}, {52, 3}, {51, 2}, {52, 1}, {20, 7}};
        for (int[] c : clicks) {
            x.click(c[0], c[1]);
        }
        Due.due("30 longest()", x, x.longest(), 3, 0);
        Due.due("31 the first by TURN", x, x.line(0), 4, 0);
        Due.due("31 its PART", x, x.line(1), 7, 0);
        Due.due("31 its SLANT", x, x.line(2), 1, 0);
        Due.due("31 line(-1)", x, x.line(-1), -1, 1);
        x.click(49, 4);
        Due.due("30 longest()", x, x.longest(), 4, 0);
        Due.due("31 line(0)", x, x.line(0), 49, 0);
        Due.due("31 line(2)", x, x.line(2), -1, 0);
        x.click(49, 3);
        Due.due("31 the lesser PART first", x, x.line(1), 3, 0);
        Due.due("31 SLANT 0", x, x.line(2), 0, 0);
        x.clean();
        x.click(3, 4);
        x.click(4, 5);
        x.click(4, 4);
        Due.due("31 the lesser SLANT first", x, x.line(2), 0, 0);
        x.click(4, 3);
        Due.due("31 the lesser SLANT first", x, x.line(2), -1, 0);
        x.clean();
        x.click(99, 0);
        x.click(0, 0);
        Due.due("30 TURNS do not go round", x, x.longest(), 1, 0);
    }

    private static void cover() {
        DiscCutter x = new DiscCutter();
        Due.due("32 without CLICKS", x, x.cover(), 0, 0);
        for (int turn = 0; turn < 4; turn++) {
            for (int part = 0; part < 4; part++) {
                x.click(turn, part);
            }
        }
        Due.due("32 four times four", x, x.cover(), 4, 0);
        x.clean();
        for (int part = 0; part < 8; part++) {
            x.click(5, part);
        }
        Due.due("32 eight on one TURN", x, x.cover(), 8, 0);
        x.clean();
        int[][] clicks = {{0, 0}, {1, 1}, {1, 7}, {2, 0}, {3, 1}, {3, 7}};
        for (int[] c : clicks) {
            x.click(c[0], c[1]);
        }
        Due.due("32 two crossing lines and one more", x, x.cover(), 3, 0);
    }

    // ---- 33 to 39

    private static void lock() {
        DiscCutter x = new DiscCutter();
        Bench.flat(x, 0, 8, 5);
        Bench.flat(x, 0, 7, 5);
        Due.due("33 too short ahead of empty", x, x.lock(0, 1), 1);
        Due.due("33 an empty SIDE", x, x.lock(0, 0), 6);
        x.lay(0, 1);
        Due.due("33 too short", x, x.lock(0, 1), 1);
        Due.due("33 no such SIDE", x, x.lock(2, 0), 1);
        Due.due("33 no such SONG", x, x.lock(0, 2), 1);
        Due.due("34 locked(0)", x, x.locked(0), -1, 6);
        Due.due("34 locked(2)", x, x.locked(2), -1, 1);
        Due.due("33 lock(0, 0)", x, x.lock(0, 0), 0);
        Due.due("34 locked(0)", x, x.locked(0), 0, 0);
        Due.due("34 locked(1)", x, x.locked(1), -1, 6);
        Due.due("33 LOCKED already", x, x.lock(0, 0), 7);
        x.rules(20, 1);
        x.lead(1, 9);
        Due.due("33 of a SIDE that CAN'T be cut, too", x, x.lock(1, 0), 0);
        Due.due("37 heard(1, 0)", x, x.heard(1, 0), -1, 5);
    }

    private static void knock() {
        DiscCutter x = new DiscCutter();
        Due.due("35 knock(-1, 0)", x, x.knock(-1, 0), 1);
        Due.due("35 knock(10001, 0)", x, x.knock(10001, 0), 1);
        Due.due("35 knock(0, 401)", x, x.knock(0, 401), 1);
        Due.due("35 knock(0, -401)", x, x.knock(0, -401), 1);
        for (int k = 0; k < 16; k++) {
            Due.due("35 knock", x, x.knock(10000 - k, 400), 0);
            if (k < 15) {
                Due.due("35 one at that tick", x, x.knock(10000 - k, -400), 7);
            }
        }
        Due.due("35 one too many ahead of that", x, x.knock(10000, 0), 4);
        Due.due("36 still()", x, x.still(), 0);
        Due.due("35 knock(10000, 0)", x, x.knock(10000, 0), 0);
    }

    private static void heard() {
        DiscCutter x = new DiscCutter();
        Bench.flat(x, 0, 8, 0);
        x.rules(10, 20);
        x.lead(0, 8);
        x.lay(0, 0);
        x.lay(0, 0);
        // PARTS at one eighth lie 10 apart
        Due.due("37 heard(0, -1)", x, x.heard(0, -1), -1, 1);
        Due.due("37 heard(0, 20001)", x, x.heard(0, 20001), -1, 1);
        Due.due("37 heard(2, 0)", x, x.heard(2, 0), -1, 1);
        Due.due("37 heard(0, 23)", x, x.heard(0, 23), 23, 0);
        Due.due("37 the END", x, x.heard(0, 24), -1, 6);
        Due.due("37 an empty SIDE", x, x.heard(1, 0), -1, 6);
        Due.due("38 a LEAD one", x, x.songHeard(0, 7), -1, 0);
        Due.due("38 a SONG", x, x.songHeard(0, 8), 0, 0);
        Due.due("38 the END", x, x.songHeard(0, 24), -1, 6);
        Due.due("38 a wrong tick", x, x.songHeard(0, 20001), -1, 1);
        x.knock(2, 5);
        Due.due("37 of two as near the lesser one", x, x.heard(0, 3), 3, 0);
        x.still();
        x.knock(2, 6);
        Due.due("37 at the KNOCK's own tick", x, x.heard(0, 2), 2, 0);
        Due.due("37 at the next one", x, x.heard(0, 3), 11, 0);
        x.knock(3, -400);
        Due.due("37 the next KNOCK at once", x, x.heard(0, 3), 11, 0);
        Due.due("37 back", x, x.heard(0, 4), 4, 0);
        x.still();
        x.knock(7, 400);
        Due.due("37 behind the last PART", x, x.heard(0, 8), -1, 6);
        x.knock(9, -400);
        Due.due("37 behind END a KNOCK does nothing", x, x.heard(0, 10), -1, 6);
        Due.due("39 what it leaves out", x, x.missed(0), 16, 0);
        x.rules(20, 2);
        Due.due("37 it CAN'T be cut", x, x.heard(0, 0), -1, 5);
        Due.due("38 it CAN'T be cut", x, x.songHeard(0, 0), -1, 5);
        Due.due("39 it CAN'T be cut", x, x.missed(0), -1, 5);
    }

    private static void heardInRing() {
        DiscCutter x = new DiscCutter();
        Bench.flat(x, 0, 8, 0);
        Bench.flat(x, 0, 11, 0);
        x.rules(10, 20);
        x.lay(0, 1);
        x.lock(0, 0);
        Due.due("37 heard(0, 10)", x, x.heard(0, 10), 10, 0);
        Due.due("37 the RING", x, x.heard(0, 11), 11, 0);
        Due.due("37 its end", x, x.heard(0, 18), 18, 0);
        Due.due("37 round", x, x.heard(0, 19), 11, 0);
        Due.due("37 round and round", x, x.heard(0, 20000), 11 + (20000 - 11) % 8, 0);
        Due.due("38 the SIDE's last PART", x, x.songHeard(0, 10), 1, 0);
        Due.due("38 the RING's SONG", x, x.songHeard(0, 11), 0, 0);
        x.knock(13, -400);
        Due.due("37 out of the RING", x, x.heard(0, 14), 6, 0);
        x.knock(14, 400);
        Due.due("37 into the RING", x, x.heard(0, 15), 15, 0);
        Due.due("39 missed(0)", x, x.missed(0), 0, 0);
    }

    private static void missed() {
        DiscCutter x = new DiscCutter();
        Due.due("39 missed(0) of an empty one", x, x.missed(0), 0, 0);
        Due.due("39 missed(2)", x, x.missed(2), -1, 1);
        Bench.flat(x, 0, 8, 5);
        for (int k = 0; k < 4; k++) {
            x.lay(1, 0);
        }
        x.knock(0, 400);
        Due.due("39 the PART that it falls into isn't heard", x, x.missed(1), 24, 0);
        x.lock(1, 0);
        Due.due("39 it falls into the RING", x, x.missed(1), 31, 0);
        x.knock(10000, -400);
        Due.due("39 and back, late: it is at an 8th's end", x, x.missed(1), 0, 0);
    }

    // ---- 40, 41

    private static void beside() {
        DiscCutter x = new DiscCutter();
        Bench.flat(x, 0, 9, 5);
        Bench.flat(x, 0, 1, 40);
        Due.due("40 placeBeside(0, 0)", x, x.placeBeside(0, 0), -1, 1);
        Due.due("40 placeBeside(2, 0)", x, x.placeBeside(2, 0), -1, 1);
        x.lay(1, 1);
        Due.due("41 SIDE 1 alone", x, x.roomBeside(), 40, 0);
        x.lay(0, 0);
        Due.due("40 SIDE 0's ninth behind SIDE 1's first: 98 is above 64", x, x.placeBeside(1, 0), -1, 5);
        x.rules(4, 13);
        Due.due("40 placeBeside(1, 0)", x, x.placeBeside(1, 0), 49, 0);
        Due.due("40 placeBeside(0, 8)", x, x.placeBeside(0, 8), 98, 0);
        Due.due("40 placeBeside(0, 7)", x, x.placeBeside(0, 7), 85, 0);
        Due.due("40 placeBeside(0, 0)", x, x.placeBeside(0, 0), 0, 0);
        Due.due("41 the greater one", x, x.roomBeside(), 103, 0);
        Due.due("40 placeBeside(1, 1)", x, x.placeBeside(1, 1), -1, 1);
        x.rules(4, 12);
        Due.due("41 98 is above 8 times 12", x, x.roomBeside(), -1, 5);
        Due.due("15 alone it can be", x, x.place(0, 8), 14, 0);
        x.anew(0);
        Due.due("41 it can be again", x, x.roomBeside(), 40, 0);
    }
}
