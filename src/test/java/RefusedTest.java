/**
 * "With another STATUS than 0 a call gives NONE, or false, and changes nothing else": every way to refuse a
 * call, on an object that has something of all, which is looked at from all sides behind it.
 */
public final class RefusedTest {
    private static final int VIEWS = 5;
    private static final int FAR = Bench.FAR;
    private static final int DEEP = Bench.DEEP;

    /** One call; a boolean counts 1 or 0. */
    private interface Call {
        long on(DiscCutter x);
    }

    /** What is done ahead of the refused call. */
    private interface Setting {
        void of(DiscCutter x);
    }

    /** Answers with their STATUS, one behind the other. */
    private static final class Seen {
        final StringBuilder all = new StringBuilder();
        final DiscCutter x;

        Seen(DiscCutter x) {
            this.x = x;
        }

        void of(long answer) {
            all.append(answer).append('/').append(x.status()).append(' ');
        }

        void of(boolean answer) {
            of(answer ? 1 : 0);
        }

        /** Of a call that has no STATUS. */
        void bare(long answer) {
            all.append(answer).append(' ');
        }
    }

    public static void main(String[] args) {
        trays();
        songs();
        sides();
        order();
        clicks();
        needle();
        beside();
        sheets();
        runOfAnError();
        sheetOfAFault();
        Due.end();
    }

    // ---- the object, and how it is looked at

    private static DiscCutter made() {
        DiscCutter x = new DiscCutter();
        x.tray(0, 0, 8);
        for (int k = 0; k < 8; k++) {
            x.write(0, k, 2 * k + 1);
        }
        x.tray(1, 1, 3);
        x.write(1, 0, -1);
        x.write(1, 1, 300);
        x.song(0, 8, 2);
        x.song(0, 7, 0);
        x.song(0, 8, 9);
        Bench.sheet(x, "mark b;lead 9;when room<9{mark a;side 1;mark c;lead 2;}");
        x.run();
        x.rules(20, 1);
        x.run();
        x.rules(3, 9);
        Bench.sheet(x, "lead 0;");
        x.anew(0);
        x.anew(1);
        x.lead(0, 2);
        x.lay(0, 0);
        x.lay(0, 2);
        x.lock(0, 2);
        x.lay(1, 1);
        x.lay(1, 0);
        x.most(100);
        x.click(3, 7);
        x.click(4, 0);
        x.click(9, 4);
        x.knock(3, 20);
        x.knock(60, -50);
        Bench.put(x, "lead 5;lead 6;");
        return x;
    }

    private static String look(DiscCutter x, int view) {
        Seen seen = new Seen(x);
        switch (view) {
            case 0:
                lookAtTraysAndSongs(seen, x);
                break;
            case 1:
                lookAtSides(seen, x);
                break;
            case 2:
                lookAtNeedle(seen, x);
                break;
            case 3:
                lookAtSheets(seen, x);
                break;
            default:
                lookAtRest(seen, x);
                break;
        }
        return seen.all.toString();
    }

    private static void lookAtTraysAndSongs(Seen seen, DiscCutter x) {
        int[] lengths = {9, 4, 1, 9};
        for (int tray = 0; tray < 4; tray++) {
            for (int place = 0; place < lengths[tray]; place++) {
                seen.of(x.read(tray, place));
            }
        }
        for (int song = 0; song < 4; song++) {
            for (int what = 0; what < 3; what++) {
                seen.of(x.told(song, what));
            }
        }
        for (int song = 0; song < 4; song++) {
            x.anew(0);
            seen.of(x.lay(0, song));
            for (int part = 0; part < 9; part++) {
                seen.of(x.level(0, part));
            }
        }
        for (int tray = 0; tray < 4; tray++) {
            seen.of(x.write(tray, 0, 0x123456789abcdefL));
            seen.of(x.read(tray, 0));
        }
        x.tray(0, 0, 1);
        seen.of(x.song(0, 1, 0));
    }

    private static void lookAtSides(Seen seen, DiscCutter x) {
        for (int side = 0; side < 2; side++) {
            seen.of(x.parts(side));
            seen.of(x.locked(side));
            seen.of(x.room(side));
            seen.of(x.ring(side, 0));
            for (int part = 0; part < 19; part++) {
                seen.of(x.level(side, part));
                seen.of(x.place(side, part));
                seen.of(x.placeBeside(side, part));
            }
            for (int k = 0; k < 12; k++) {
                seen.of(x.tight(side, k));
            }
        }
        seen.of(x.roomBeside());
        seen.of(x.lead(0, 1));
        seen.of(x.lead(1, 1));
        seen.of(x.parts(1));
    }

    private static void lookAtNeedle(Seen seen, DiscCutter x) {
        for (int side = 0; side < 2; side++) {
            for (int tick = 0; tick < 80; tick++) {
                seen.of(x.heard(side, tick));
            }
            for (int tick = 0; tick < 25; tick++) {
                seen.of(x.songHeard(side, tick));
            }
            seen.of(x.missed(side));
        }
    }

    private static void lookAtSheets(Seen seen, DiscCutter x) {
        for (int what = 0; what < 2; what++) {
            seen.bare(x.fault(what));
            seen.bare(x.error(what));
            for (int k = 0; k < 4; k++) {
                seen.of(x.mark(k, what));
            }
        }
        seen.bare(x.feed(0, 0, 0, 0, 0));
        seen.of(x.run());
        seen.of(x.parts(0));
        seen.of(x.parts(1));
        for (int k = 0; k < 4; k++) {
            seen.of(x.mark(k, 1));
        }
        seen.of(x.sheet(14));
        seen.of(x.run());
    }

    private static void lookAtRest(Seen seen, DiscCutter x) {
        seen.of(x.order());
        for (int k = 0; k < 4; k++) {
            seen.of(x.sideOf(k));
            seen.of(x.songAt(0, k));
            seen.of(x.songAt(1, k));
        }
        seen.of(x.longest());
        for (int what = 0; what < 3; what++) {
            seen.of(x.line(what));
        }
        seen.of(x.cover());
        seen.of(x.press());
        seen.of(x.parts(0));
        seen.of(x.parts(1));
        // with the three SONGS that there are just 100 PARTS on each, and then one more
        x.tray(3, 0, 60);
        int[] lengths = {60, 60, 40, 17};
        for (int length : lengths) {
            seen.of(x.song(3, length, 0));
        }
        seen.of(x.order());
        seen.of(x.song(3, 1, 0));
        seen.of(x.order());
        for (int k = 0; k < 16; k++) {
            seen.of(x.click(2 * k, 1));
            seen.of(x.knock(100 + k, 0));
        }
        seen.of(x.cover());
    }

    private static void refused(String what, int status, Call call) {
        refused(what, status, x -> { }, call);
    }

    private static void refused(String what, int status, Setting setting, Call call) {
        for (int view = 0; view < VIEWS; view++) {
            DiscCutter plain = made();
            setting.of(plain);
            String due = look(plain, view);
            DiscCutter x = made();
            setting.of(x);
            long got = call.on(x);
            Due.due(what, got == -1 || got == 0, true);
            Due.due(what + ", STATUS", x.status(), status);
            boolean same = look(x, view).equals(due);
            Due.due(what + " changes nothing, view " + view, same, true);
        }
    }

    private static long of(boolean answer) {
        return answer ? 1 : 0;
    }

    // ---- every way to refuse

    private static void trays() {
        for (int tray : Bench.NO_TRAYS) {
            refused("3 no such TRAY", 1, x -> of(x.tray(tray, 0, 1)));
            refused("4 no such TRAY", 1, x -> of(x.write(tray, 0, 1)));
            refused("5 no such TRAY", 1, x -> x.read(tray, 0));
            refused("6 from no such TRAY", 1, x -> of(x.pour(tray, 0, 0, 0, 1)));
            refused("6 to no such TRAY", 1, x -> of(x.pour(0, 0, tray, 0, 1)));
        }
        refused("3 sort", 1, x -> of(x.tray(0, 4, 1)));
        refused("3 sort of a MISSING one", 1, x -> of(x.tray(2, -1, 1)));
        refused("3 many", 1, x -> of(x.tray(0, 0, 61)));
        refused("3 many of a MISSING one", 1, x -> of(x.tray(2, 0, -1)));
        refused("4 MISSING", 2, x -> of(x.write(2, 0, 1)));
        refused("4 behind the last place", 3, x -> of(x.write(1, 3, 1)));
        refused("4 ahead of the first place", 3, x -> of(x.write(1, -1, 1)));
        refused("5 MISSING", 2, x -> x.read(2, 0));
        refused("5 behind the last place", 3, x -> x.read(1, 3));
        refused("6 below 0", 1, x -> of(x.pour(0, 0, 0, 1, -1)));
        refused("6 below 0", 1, x -> of(x.pour(0, -1, 0, 1, 1)));
        refused("6 below 0", 1, x -> of(x.pour(0, 0, 0, -1, 1)));
        refused("6 MISSING", 2, x -> of(x.pour(0, 0, 2, 0, 1)));
        refused("6 unlike sorts", 8, x -> of(x.pour(0, 0, 1, 0, 1)));
        refused("6 too few numbers", 3, x -> of(x.pour(0, 0, 0, 1, 8)));
        refused("6 too few numbers", 3, x -> of(x.pour(0, 1, 0, 0, 8)));
        refused("6 far too few numbers", 3, x -> of(x.pour(0, FAR, 0, 0, FAR)));
    }

    private static void songs() {
        refused("7 no such TRAY", 1, x -> x.song(4, 1, 0));
        refused("7 many", 1, x -> x.song(0, 0, 0));
        refused("7 many", 1, x -> x.song(0, 61, 0));
        refused("7 HIGH", 1, x -> x.song(0, 1, 10));
        refused("7 MISSING", 2, x -> x.song(2, 1, 0));
        refused("7 too few numbers", 3, x -> x.song(0, 9, 0));
        refused("7 a LEVEL", 1, x -> x.song(1, 1, 0));
        refused("7 one too many", 4, x -> {
            for (int k = 0; k < 7; k++) {
                x.song(0, 1, 0);
            }
        }, x -> x.song(0, 8, 0));
        refused("8 no such SONG", 1, x -> x.told(3, 0));
        refused("8 what", 1, x -> x.told(0, 3));
        refused("9 LAND", 1, x -> of(x.rules(21, 5)));
        refused("9 LAND", 1, x -> of(x.rules(0, 5)));
        refused("9 FEED", 1, x -> of(x.rules(5, 21)));
        refused("9 FEED", 1, x -> of(x.rules(5, 0)));
    }

    private static void sides() {
        for (int side : Bench.NO_SIDES) {
            refused("10 no such SIDE", 1, x -> of(x.anew(side)));
            refused("11 no such SIDE", 1, x -> of(x.lead(side, 1)));
            refused("12 no such SIDE", 1, x -> of(x.lay(side, 0)));
            refused("13 no such SIDE", 1, x -> x.parts(side));
            refused("14 no such SIDE", 1, x -> x.level(side, 0));
            refused("15 no such SIDE", 1, x -> x.place(side, 0));
            refused("16 no such SIDE", 1, x -> x.room(side));
            refused("17 no such SIDE", 1, x -> x.tight(side, 0));
            refused("18 no such SIDE", 1, x -> x.cannot(side));
            refused("19 no such SIDE", 1, x -> x.softer(side));
            refused("20 no such SIDE", 1, x -> x.soften(side, 0));
            refused("24 no such SIDE", 1, x -> x.songAt(side, 0));
            refused("26 no such SIDE", 1, x -> x.ring(side, 0));
            refused("33 no such SIDE", 1, x -> of(x.lock(side, 0)));
            refused("34 no such SIDE", 1, x -> x.locked(side));
            refused("37 no such SIDE", 1, x -> x.heard(side, 0));
            refused("38 no such SIDE", 1, x -> x.songHeard(side, 0));
            refused("39 no such SIDE", 1, x -> x.missed(side));
            refused("40 no such SIDE", 1, x -> x.placeBeside(side, 0));
        }
        refused("11 many", 1, x -> of(x.lead(1, 0)));
        refused("11 many", 1, x -> of(x.lead(1, 101)));
        refused("11 LOCKED", 7, x -> of(x.lead(0, 1)));
        refused("11 one too many", 4, RefusedTest::fill, x -> of(x.lead(1, 1)));
        refused("12 no such SONG", 1, x -> of(x.lay(1, 3)));
        refused("12 LOCKED", 7, x -> of(x.lay(0, 0)));
        refused("12 one too many", 4, RefusedTest::fill, x -> of(x.lay(1, 0)));
        refused("14 no such PART", 1, x -> x.level(0, 18));
        refused("15 no such PART", 1, x -> x.place(0, 18));
        refused("15 it CAN'T be", 5, RefusedTest::makeImpossible, x -> x.place(0, 0));
        refused("16 it CAN'T be", 5, RefusedTest::makeImpossible, x -> x.room(0));
        refused("17 it CAN'T be", 5, RefusedTest::makeImpossible, x -> x.tight(0, 0));
        refused("17 there is none such", 6, x -> x.tight(0, -1));
        refused("18 it can", 6, x -> x.cannot(0));
        refused("19 there is none", 6, RefusedTest::makeImpossible, x -> x.softer(0));
        refused("20 LEVEL", 1, x -> x.soften(0, 41));
        refused("20 LEVEL", 1, x -> x.soften(0, -1));
    }

    private static void fill(DiscCutter x) {
        Bench.silent(x, 1, 400);
    }

    private static void makeImpossible(DiscCutter x) {
        x.rules(20, 1);
    }

    private static void order() {
        Setting crowd = x -> x.most(7);
        refused("21 too few", 1, x -> of(x.most(0)));
        refused("21 too many", 1, x -> of(x.most(401)));
        refused("22 there is none", 5, crowd, x -> x.order());
        refused("23 no such SONG", 1, x -> x.sideOf(3));
        refused("23 there is none", 5, crowd, x -> x.sideOf(0));
        refused("24 there is none", 5, crowd, x -> x.songAt(0, 0));
        refused("24 no such one", 6, x -> x.songAt(0, 9));
        refused("25 there is none", 5, crowd, x -> of(x.press()));
        refused("26 no such SONG", 1, x -> x.ring(0, 3));
        refused("26 too short a SONG", 1, x -> x.ring(0, 1));
        refused("26 it CAN'T be", 5, RefusedTest::makeImpossible, x -> x.ring(0, 0));
        refused("26 empty", 6, x -> x.anew(0), x -> x.ring(0, 0));
        refused("27 a beat", 1, x -> x.inTime(9));
    }

    private static void clicks() {
        refused("28 TURN", 1, x -> of(x.click(100, 0)));
        refused("28 PART", 1, x -> of(x.click(0, 8)));
        refused("28 there already", 7, x -> of(x.click(4, 0)));
        refused("28 one too many", 4, x -> {
            for (int k = 0; k < 13; k++) {
                x.click(20 + k, 0);
            }
        }, x -> of(x.click(5, 1)));
        refused("30 there are none", 6, x -> x.clean(), x -> x.longest());
        refused("31 what", 1, x -> x.line(3));
        refused("31 there are none", 6, x -> x.clean(), x -> x.line(0));
    }

    private static void needle() {
        refused("33 too short a SONG", 1, x -> of(x.lock(1, 1)));
        refused("33 no such SONG", 1, x -> of(x.lock(1, 3)));
        refused("33 empty", 6, x -> x.anew(1), x -> of(x.lock(1, 0)));
        refused("33 LOCKED already", 7, x -> of(x.lock(0, 0)));
        refused("34 not LOCKED", 6, x -> x.locked(1));
        refused("35 tick", 1, x -> of(x.knock(10001, 0)));
        refused("35 tick", 1, x -> of(x.knock(-1, 0)));
        refused("35 push", 1, x -> of(x.knock(5, 401)));
        refused("35 push", 1, x -> of(x.knock(5, -401)));
        refused("35 one at that tick", 7, x -> of(x.knock(3, -20)));
        refused("35 one too many", 4, x -> {
            for (int k = 0; k < 14; k++) {
                x.knock(200 + k, 0);
            }
        }, x -> of(x.knock(5, 100)));
        refused("37 tick", 1, x -> x.heard(0, 20001));
        refused("37 it CAN'T be", 5, RefusedTest::makeImpossible, x -> x.heard(0, 5));
        refused("37 END", 6, x -> x.heard(1, 400));
        refused("38 tick", 1, x -> x.songHeard(0, -1));
        refused("38 it CAN'T be", 5, RefusedTest::makeImpossible, x -> x.songHeard(0, 5));
        refused("38 END", 6, x -> x.songHeard(1, 400));
        refused("39 it CAN'T be", 5, RefusedTest::makeImpossible, x -> x.missed(0));
    }

    private static void beside() {
        refused("40 no such PART", 1, x -> x.placeBeside(1, 15));
        refused("40 it CAN'T be", 5, RefusedTest::makeImpossible, x -> x.placeBeside(0, 0));
        refused("41 it CAN'T be", 5, RefusedTest::makeImpossible, x -> x.roomBeside());
    }

    private static void sheets() {
        refused("43 more than the tape has", 1, x -> x.sheet(21));
        refused("43 below 0", 1, x -> x.sheet(-1));
        refused("43 far below 0", 1, x -> x.sheet(DEEP));
        refused("47 k below 0", 1, x -> x.mark(-1, 0));
        refused("47 what", 1, x -> x.mark(0, 2));
        refused("47 there is none", 6, x -> x.mark(9, 0));
        DiscCutter x = new DiscCutter();
        x.lead(0, 3);
        x.feed(0, 0, 0, 0, 0);
        Due.due("45 there is no SHEET", x, x.run(), -1, 9);
        Due.due("45 as it was", x, x.parts(0), 3, 0);
        Due.due("45 no ERROR of it", x.error(0), -1);
        Due.due("42 the tape, too", x.feed(0, 0, 0, 0, 0), 40);
    }

    /** A RUN with an ERROR changes what error() tells, and nothing else. */
    private static void runOfAnError() {
        for (int view = 0; view < VIEWS; view++) {
            // made() has met the same ERROR, so that error() tells the same
            DiscCutter plain = made();
            plain.rules(20, 1);
            DiscCutter x = made();
            x.rules(20, 1);
            Due.due("45 an ERROR", x, x.run(), -1, 10);
            Due.due("45 an ERROR changes nothing", look(x, view).equals(look(plain, view)), true);
        }
    }

    /** A FAULT changes what fault() tells, empties the tape, and nothing else. */
    private static void sheetOfAFault() {
        for (int view = 0; view < VIEWS; view++) {
            DiscCutter plain = made();
            DiscCutter x = made();
            Due.due("43 a FAULT", x, x.sheet(20), -1, 9);
            Due.due("44 told", x.fault(0), 1);
            Due.due("44 told", x.fault(1), 14);
            if (view == 3) {
                lookAtSheetBehindAFault(x);
            } else {
                Due.due("43 a FAULT changes nothing else", look(x, view).equals(look(plain, view)), true);
            }
        }
    }

    private static void lookAtSheetBehindAFault(DiscCutter x) {
        Due.due("42 the tape is empty", x.feed(0, 0, 0, 0, 0), 20);
        Due.due("46 error(0) stays", x.error(0), 4);
        Due.due("47 MARKS stay: b", x, x.mark(0, 1), 0, 0);
        Due.due("47 MARKS stay: a", x, x.mark(1, 1), 9, 0);
        Due.due("47 MARKS stay: c", x, x.mark(2, 0), 1, 0);
        Due.due("45 the SHEET stays", x, x.run(), 11, 0);
    }
}
