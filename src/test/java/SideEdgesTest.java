/** Promises 10 to 20: a test for each sentence that names an edge; what is quoted is the document's. */
public final class SideEdgesTest {
    private static final int FAR = Bench.FAR;
    private static final int DEEP = Bench.DEEP;

    public static void main(String[] args) {
        sides0And1();
        anewOfAnySide();
        leadOf1To100();
        leadUpTo400();
        leadOnALockedOne();
        layASong();
        layUpTo400();
        partsOfASide();
        levelOfAPart();
        placeOfAPart();
        firstTurnIsFree();
        byFeedAtMost();
        neverBack();
        leastOfThree();
        longestAndLoudest();
        placesFollowChanges();
        roomOfLast();
        roomOfEmpty();
        tightJust();
        tightNone();
        cannotAboveEightTimesFeed();
        cannotTheFirst();
        cannotOfEight();
        softerJust();
        softerOfNone();
        softerNone();
        softenOf0To40();
        softenWhatIsThere();
        softenNotTheRing();
        Due.end();
    }

    // ---- 2 of the terms: which SIDES there are

    /** "A SIDE (0, 1)". */
    private static void sides0And1() {
        DiscCutter x = new DiscCutter();
        Bench.flat(x, 0, 8, 0);
        for (int side : Bench.NO_SIDES) {
            Due.due("10 SIDE " + side, x, x.anew(side), 1);
            Due.due("11 SIDE " + side, x, x.lead(side, 1), 1);
            Due.due("12 SIDE " + side, x, x.lay(side, 0), 1);
            Due.due("13 SIDE " + side, x, x.parts(side), -1, 1);
            Due.due("14 SIDE " + side, x, x.level(side, 0), -1, 1);
            Due.due("15 SIDE " + side, x, x.place(side, 0), -1, 1);
            Due.due("16 SIDE " + side, x, x.room(side), -1, 1);
            Due.due("17 SIDE " + side, x, x.tight(side, 0), -1, 1);
            Due.due("18 SIDE " + side, x, x.cannot(side), -1, 1);
            Due.due("19 SIDE " + side, x, x.softer(side), -1, 1);
            Due.due("20 SIDE " + side, x, x.soften(side, 0), -1, 1);
            Due.due("24 SIDE " + side, x, x.songAt(side, 0), -1, 1);
            Due.due("26 SIDE " + side, x, x.ring(side, 0), -1, 1);
            Due.due("33 SIDE " + side, x, x.lock(side, 0), 1);
            Due.due("34 SIDE " + side, x, x.locked(side), -1, 1);
            Due.due("37 SIDE " + side, x, x.heard(side, 0), -1, 1);
            Due.due("38 SIDE " + side, x, x.songHeard(side, 0), -1, 1);
            Due.due("39 SIDE " + side, x, x.missed(side), -1, 1);
            Due.due("40 SIDE " + side, x, x.placeBeside(side, 0), -1, 1);
        }
        for (int side = 0; side < 2; side++) {
            Due.due("13 nothing came to it", x, x.parts(side), 0, 0);
            Due.due("11 SIDE " + side, x, x.lead(side, 1 + side), 0);
        }
        Due.due("13 SIDE 0 by itself", x, x.parts(0), 1, 0);
        Due.due("13 SIDE 1 by itself", x, x.parts(1), 2, 0);
    }

    // ---- 10

    /** "A SIDE is empty, and not LOCKED". */
    private static void anewOfAnySide() {
        DiscCutter x = new DiscCutter();
        Due.due("10 of an empty one", x, x.anew(0), 0);
        Due.due("10 it is empty", x, x.parts(0), 0, 0);
        Bench.flat(x, 0, 8, 1);
        for (int side = 0; side < 2; side++) {
            Bench.silent(x, side, 400);
            x.lock(side, 0);
        }
        Due.due("10 of a full and LOCKED one", x, x.anew(0), 0);
        Due.due("10 empty", x, x.parts(0), 0, 0);
        Due.due("10 not LOCKED", x, x.locked(0), -1, 6);
        Due.due("10 the other one stays full", x, x.parts(1), 400, 0);
        Due.due("10 the other one stays LOCKED", x, x.locked(1), 0, 0);
        Due.due("10 no PART of it is left", x, x.level(0, 0), -1, 1);
        Due.due("10 its ROOM", x, x.room(0), 0, 0);
        Due.due("11 it takes PARTS again", x, x.lead(0, 100), 0);
        Due.due("33 it can be LOCKED again", x, x.lock(0, 0), 0);
    }

    // ---- 11

    /** "So many LEAD PARTS (1 to 100) more on a SIDE". */
    private static void leadOf1To100() {
        DiscCutter x = new DiscCutter();
        int[] wrong = {DEEP, -1, 0, 101, FAR};
        for (int many : wrong) {
            Due.due("11 " + many, x, x.lead(0, many), 1);
            Due.due("11 nothing came", x, x.parts(0), 0, 0);
        }
        Due.due("11 1", x, x.lead(0, 1), 0);
        Due.due("13 1", x, x.parts(0), 1, 0);
        Due.due("11 100 more", x, x.lead(0, 100), 0);
        Due.due("13 101", x, x.parts(0), 101, 0);
        Due.due("14 silent, the first", x, x.level(0, 0), 0, 0);
        Due.due("14 silent, the last", x, x.level(0, 100), 0, 0);
        Due.due("38 of no SONG", x, x.songHeard(0, 100), -1, 0);
    }

    /** "at most 400 together": LEAD PARTS. */
    private static void leadUpTo400() {
        DiscCutter x = new DiscCutter();
        Bench.silent(x, 0, 300);
        Due.due("11 300 and 100", x, x.lead(0, 100), 0);
        Due.due("11 one more", x, x.lead(0, 1), 4);
        Due.due("11 a wrong number is asked first", x, x.lead(0, 101), 1);
        Due.due("13 full", x, x.parts(0), 400, 0);
        Bench.silent(x, 0, 301);
        Due.due("11 301 and 100", x, x.lead(0, 100), 4);
        Due.due("13 as it was", x, x.parts(0), 301, 0);
        Due.due("11 301 and 99", x, x.lead(0, 99), 0);
        Due.due("13 full", x, x.parts(0), 400, 0);
        Due.due("11 the other SIDE has its own 400", x, x.lead(1, 100), 0);
    }

    /** "(1, 4, 7)", "Nothing more is laid on it, until it is anew." */
    private static void leadOnALockedOne() {
        DiscCutter x = new DiscCutter();
        Bench.flat(x, 0, 8, 0);
        Bench.flat(x, 0, 1, 0);
        Bench.silent(x, 0, 399);
        x.lock(0, 0);
        Due.due("11 LOCKED", x, x.lead(0, 1), 7);
        Due.due("12 LOCKED", x, x.lay(0, 1), 7);
        Due.due("11 one too many ahead of LOCKED", x, x.lead(0, 2), 4);
        Due.due("12 one too many ahead of LOCKED", x, x.lay(0, 0), 4);
        Due.due("11 a wrong number ahead of both", x, x.lead(0, 0), 1);
        Due.due("12 no such SONG ahead of both", x, x.lay(0, 2), 1);
        Due.due("13 as it was", x, x.parts(0), 399, 0);
        x.anew(0);
        Due.due("11 anew", x, x.lead(0, 1), 0);
        Due.due("12 anew", x, x.lay(0, 0), 0);
    }

    // ---- 12

    /** "A SONG more on a SIDE (1, ..". */
    private static void layASong() {
        DiscCutter x = new DiscCutter();
        Due.due("12 no SONG at all", x, x.lay(0, 0), 1);
        Bench.song(x, 0, 7);
        Bench.song(x, 0, 8, 9);
        int[] wrong = {DEEP, -1, 2, 9, 10, FAR};
        for (int song : wrong) {
            Due.due("12 SONG " + song, x, x.lay(0, song), 1);
        }
        Due.due("13 nothing came", x, x.parts(0), 0, 0);
        Due.due("12 SONG 1", x, x.lay(0, 1), 0);
        Due.due("12 SONG 0", x, x.lay(0, 0), 0);
        Due.due("12 SONG 1 once more", x, x.lay(0, 1), 0);
        int[] due = {8, 9, 7, 8, 9};
        int[] songs = {1, 1, 0, 1, 1};
        for (int k = 0; k < 5; k++) {
            Due.due("14 PART " + k, x, x.level(0, k), due[k], 0);
            Due.due("38 PART " + k, x, x.songHeard(0, k), songs[k], 0);
        }
    }

    /** "at most 400 together": SONGS. */
    private static void layUpTo400() {
        DiscCutter x = new DiscCutter();
        Bench.flat(x, 0, 60, 1);
        Bench.flat(x, 0, 1, 2);
        Bench.silent(x, 0, 340);
        Due.due("12 340 and 60", x, x.lay(0, 0), 0);
        Due.due("13 full", x, x.parts(0), 400, 0);
        Due.due("14 the last one", x, x.level(0, 399), 1, 0);
        Due.due("12 one more", x, x.lay(0, 1), 4);
        Bench.silent(x, 0, 341);
        Due.due("12 341 and 60", x, x.lay(0, 0), 4);
        Due.due("13 each whole, or nothing of it", x, x.parts(0), 341, 0);
        Bench.silent(x, 0, 399);
        Due.due("12 399 and 1", x, x.lay(0, 1), 0);
        Due.due("14 the last one", x, x.level(0, 399), 2, 0);
    }

    // ---- 13, 14

    /** "How many PARTS a SIDE has". */
    private static void partsOfASide() {
        DiscCutter x = new DiscCutter();
        Due.due("13 none", x, x.parts(0), 0, 0);
        Bench.flat(x, 0, 8, 0);
        x.lead(0, 1);
        Due.due("13 one", x, x.parts(0), 1, 0);
        x.lock(0, 0);
        Due.due("13 the RING is none of them", x, x.parts(0), 1, 0);
        Bench.silent(x, 1, 400);
        Due.due("13 400", x, x.parts(1), 400, 0);
    }

    /** "LEVEL of a PART (1)": "no such .. PART". */
    private static void levelOfAPart() {
        DiscCutter x = new DiscCutter();
        Due.due("14 of an empty one", x, x.level(0, 0), -1, 1);
        Bench.song(x, 0, 40, 1, 2, 3, 4, 5, 6, 39);
        x.lay(0, 0);
        Due.due("14 the first", x, x.level(0, 0), 40, 0);
        Due.due("14 the last", x, x.level(0, 7), 39, 0);
        int[] wrong = {DEEP, -1, 8, FAR};
        for (int part : wrong) {
            Due.due("14 PART " + part, x, x.level(0, part), -1, 1);
        }
        x.lock(0, 0);
        Due.due("14 a PART of the RING", x, x.level(0, 8), -1, 1);
        Bench.silent(x, 1, 400);
        Due.due("14 PART 399", x, x.level(1, 399), 0, 0);
        Due.due("14 PART 400", x, x.level(1, 400), -1, 1);
    }

    // ---- 15

    /** "The PLACE of a PART, LEAST (1, 5)". */
    private static void placeOfAPart() {
        DiscCutter x = new DiscCutter();
        Due.due("15 of an empty one", x, x.place(0, 0), -1, 1);
        Bench.silent(x, 0, 9);
        int[] wrong = {DEEP, -1, 9, FAR};
        for (int part : wrong) {
            Due.due("15 PART " + part, x, x.place(0, part), -1, 1);
        }
        x.rules(20, 1);
        for (int part = 0; part < 9; part++) {
            Due.due("15 none of them CAN be", x, x.place(0, part), -1, 5);
        }
        Due.due("15 no such PART ahead of that", x, x.place(0, 9), -1, 1);
        x.rules(4, 8);
        Bench.silent(x, 1, 400);
        Due.due("15 PART 399", x, x.place(1, 399), 49 * 4, 0);
        Due.due("15 PART 400", x, x.place(1, 400), -1, 1);
    }

    /** "A TURN has 8 PARTS": the first 8 have none 8 ahead. */
    private static void firstTurnIsFree() {
        DiscCutter x = new DiscCutter();
        Bench.flat(x, 0, 8, 40);
        x.rules(20, 1);
        x.lay(0, 0);
        for (int k = 0; k < 8; k++) {
            Due.due("15 the first, PART " + k, x, x.place(0, k), 0, 0);
        }
        x.lead(0, 1);
        Due.due("15 a ninth one CAN'T be", x, x.place(0, 0), -1, 5);
        x.rules(20, 8);
        Due.due("15 a ninth one: 40 and 20 off", x, x.place(0, 8), 60, 0);
        Due.due("15 the first stays", x, x.place(0, 0), 0, 0);
    }

    /** "that of each next one not less, and by FEED at most more": just FEED is fine. */
    private static void byFeedAtMost() {
        DiscCutter x = new DiscCutter();
        Bench.flat(x, 0, 60, 30);
        x.lay(0, 0);
        for (int k = 0; k < 60; k++) {
            Due.due("15 twice 30 and 4 are 8 times 8: PART " + k, x, x.place(0, k), 8 * k, 0);
        }
        x.rules(3, 8);
        for (int k = 0; k < 60; k++) {
            int within = k % 8 == 0 ? 0 : 8 * (k % 8) - 1;
            Due.due("15 one less: PART " + k, x, x.place(0, k), 63 * (k / 8) + within, 0);
        }
    }

    /** "it never goes back": a soft PART behind a loud one. */
    private static void neverBack() {
        DiscCutter x = new DiscCutter();
        Bench.song(x, 0, 40, 0, 0, 0, 0, 0, 0, 0, 0, 0, 0);
        x.lay(0, 0);
        Due.due("15 behind the loud one", x, x.place(0, 8), 44, 0);
        Due.due("15 not less", x, x.place(0, 9), 44, 0);
        Due.due("15 not less", x, x.place(0, 10), 44, 0);
    }

    private static DiscCutter withThreeTurns() {
        DiscCutter x = new DiscCutter();
        Bench.song(x, 0, 40);
        x.rules(1, 10);
        x.lead(0, 16);
        x.lay(0, 0);
        x.lead(0, 8);
        return x;
    }

    /** "LEAST are the PLACES of which each one is the least that it is in any such PLACES". */
    private static void leastOfThree() {
        DiscCutter x = withThreeTurns();
        int[] due = {0, 0, 0, 0, 0, 0, 0, 0, 1, 1, 1, 1, 2, 12, 22, 32,
            42, 42, 42, 42, 43, 53, 63, 73, 83};
        for (int k = 0; k < due.length; k++) {
            Due.due("15 PART " + k, x, x.place(0, k), due[k], 0);
        }
    }

    /** The greatest of all: 400 PARTS, LEVELS 40, LAND 20. */
    private static void longestAndLoudest() {
        DiscCutter x = new DiscCutter();
        Bench.flat(x, 0, 60, 40);
        Bench.flat(x, 0, 40, 40);
        for (int k = 0; k < 6; k++) {
            x.lay(0, 0);
        }
        x.lay(0, 1);
        x.rules(20, 20);
        for (int k = 0; k < 400; k += 19) {
            int due = 100 * (k / 8) + Math.max(0, 20 * (k % 8) - 60);
            Due.due("15 PART " + k, x, x.place(0, k), due, 0);
        }
        Due.due("16 the greatest ROOM", x, x.room(0), 4980 + 40, 0);
        Due.due("17 the last one is TIGHT", x, x.tight(0, 391), 399, 0);
        Due.due("17 there are no more", x, x.tight(0, 392), -1, 6);
        x.rules(20, 13);
        Due.due("18 100 by 104", x, x.cannot(0), -1, 6);
        x.rules(20, 12);
        Due.due("18 100 by 96", x, x.cannot(0), 8, 0);
    }

    /** PLACES are always by what is laid, its LEVELS, LAND and FEED of now. */
    private static void placesFollowChanges() {
        DiscCutter x = new DiscCutter();
        Bench.flat(x, 0, 9, 5);
        x.lay(0, 0);
        Due.due("15 place(0, 8)", x, x.place(0, 8), 14, 0);
        x.soften(0, 3);
        Due.due("15 softer", x, x.place(0, 8), 10, 0);
        x.rules(6, 8);
        Due.due("15 more LAND", x, x.place(0, 8), 12, 0);
        x.rules(6, 2);
        Due.due("15 less FEED", x, x.place(0, 7), 10, 0);
        x.lead(0, 8);
        Due.due("15 more PARTS", x, x.place(0, 16), 21, 0);
        x.anew(0);
        x.lay(0, 0);
        Due.due("15 anew", x, x.place(0, 8), 16, 0);
        x.soften(0, 1);
        x.rules(7, 8);
        Due.due("15 softer, and more LAND", x, x.place(0, 8), 9, 0);
        x.rules(8, 8);
        x.rules(9, 8);
        x.soften(0, 0);
        Due.due("15 more LAND twice, and softer", x, x.place(0, 8), 9, 0);
    }

    // ---- 16

    /** "the PLACE of its last PART and that one's LEVEL". */
    private static void roomOfLast() {
        DiscCutter x = new DiscCutter();
        Bench.song(x, 0, 40);
        Bench.song(x, 0, 0);
        x.lay(0, 0);
        Due.due("16 one PART", x, x.room(0), 40, 0);
        x.lay(0, 1);
        Due.due("16 the last one's LEVEL, not the loudest", x, x.room(0), 0, 0);
        x.lead(0, 7);
        Due.due("16 nine PARTS", x, x.room(0), 44, 0);
        x.rules(20, 7);
        Due.due("16 it CAN'T be", x, x.room(0), -1, 5);
    }

    /** "(0 of an empty one)". */
    private static void roomOfEmpty() {
        DiscCutter x = new DiscCutter();
        Due.due("16 an empty one", x, x.room(1), 0, 0);
        x.rules(20, 1);
        Due.due("16 an empty one CAN be, by any LAND and FEED", x, x.room(1), 0, 0);
        x.lead(1, 9);
        Due.due("16 it CAN'T", x, x.room(1), -1, 5);
        x.anew(1);
        Due.due("16 empty again", x, x.room(1), 0, 0);
    }

    // ---- 17

    /** "TIGHT at a PART, if the PLACE is just that of the PART 8 ahead, both LEVELS and LAND". */
    private static void tightJust() {
        DiscCutter x = withThreeTurns();
        int[] due = {8, 9, 10, 11, 16, 24};
        for (int k = 0; k < due.length; k++) {
            Due.due("17 the one numbered " + k, x, x.tight(0, k), due[k], 0);
        }
        Due.due("17 no more: PART 12 lies 1 off", x, x.tight(0, 6), -1, 6);
    }

    /** "from 0 on (1; 5; 6: k below 0, too)". */
    private static void tightNone() {
        DiscCutter x = new DiscCutter();
        int[] any = {DEEP, -1, 0, FAR};
        for (int k : any) {
            Due.due("17 an empty one, " + k, x, x.tight(0, k), -1, 6);
        }
        x.lead(0, 8);
        Due.due("17 8 PARTS", x, x.tight(0, 0), -1, 6);
        x.lead(0, 1);
        Due.due("17 9 PARTS", x, x.tight(0, 0), 8, 0);
        int[] none = {DEEP, -1, 1, FAR};
        for (int k : none) {
            Due.due("17 the one numbered " + k, x, x.tight(0, k), -1, 6);
        }
        x.rules(9, 1);
        for (int k : any) {
            Due.due("17 it CAN'T be, ahead of that, " + k, x, x.tight(0, k), -1, 5);
        }
    }

    // ---- 18

    private static void lay(DiscCutter x, int first, int ninth) {
        x.anew(0);
        x.lay(0, Bench.song(x, 0, first, 0, 0, 0, 0, 0, 0, 0, ninth));
    }

    /** "It CAN'T be cut, if two LEVELS 8 apart and LAND are above 8 times FEED". */
    private static void cannotAboveEightTimesFeed() {
        DiscCutter x = new DiscCutter();
        lay(x, 40, 20);
        Due.due("18 just 64", x, x.cannot(0), -1, 6);
        lay(x, 40, 21);
        Due.due("18 65, both LEVELS", x, x.cannot(0), 8, 0);
        lay(x, 21, 40);
        Due.due("18 65, the other way round", x, x.cannot(0), 8, 0);
        lay(x, 20, 40);
        Due.due("18 just 64", x, x.cannot(0), -1, 6);
        x.rules(5, 8);
        Due.due("18 65 by LAND", x, x.cannot(0), 8, 0);
        x.rules(4, 7);
        Due.due("18 64 above 56", x, x.cannot(0), 8, 0);
        x.rules(20, 10);
        Due.due("18 just 80", x, x.cannot(0), -1, 6);
        x.rules(8, 1);
        Bench.silent(x, 0, 9);
        Due.due("18 LAND alone is just 8", x, x.cannot(0), -1, 6);
        x.rules(9, 1);
        Due.due("18 LAND alone is 9", x, x.cannot(0), 8, 0);
    }

    /** "the first such PART is the later one of the first such two". */
    private static void cannotTheFirst() {
        DiscCutter x = new DiscCutter();
        Bench.song(x, 0, 40);
        Bench.silent(x, 0, 100);
        x.lay(0, 0);
        x.lead(0, 7);
        x.lay(0, 0);
        x.lead(0, 7);
        x.lay(0, 0);
        Due.due("18 PART 108 with PART 100", x, x.cannot(0), 108, 0);
        Bench.silent(x, 1, 391);
        x.lay(1, 0);
        x.lead(1, 7);
        Due.due("18 not yet", x, x.cannot(1), -1, 6);
        x.lay(1, 0);
        Due.due("18 the last of 400", x, x.cannot(1), 399, 0);
    }

    /** "two LEVELS 8 apart": 8 PARTS and fewer have none. */
    private static void cannotOfEight() {
        DiscCutter x = new DiscCutter();
        x.rules(20, 1);
        Due.due("18 an empty one", x, x.cannot(0), -1, 6);
        Bench.flat(x, 0, 8, 40);
        x.lay(0, 0);
        Due.due("18 of 8", x, x.cannot(0), -1, 6);
        x.lay(0, 0);
        Due.due("18 of 16", x, x.cannot(0), 8, 0);
    }

    // ---- 19

    /** "the least s (0 to 40), so that it could be cut, if each LEVEL above 40 less s were 40 less s". */
    private static void softerJust() {
        DiscCutter x = new DiscCutter();
        lay(x, 40, 40);
        Due.due("19 twice 30", x, x.softer(0), 10, 0);
        x.rules(3, 8);
        Due.due("19 twice 30, and one is left", x, x.softer(0), 10, 0);
        x.rules(2, 8);
        Due.due("19 twice 31", x, x.softer(0), 9, 0);
        x.rules(1, 10);
        Due.due("19 twice 39, and one is left", x, x.softer(0), 1, 0);
        x.rules(8, 11);
        Due.due("19 it can be cut: 80", x, x.softer(0), 0, 0);
        lay(x, 40, 0);
        x.rules(1, 5);
        Due.due("19 39 and 0", x, x.softer(0), 1, 0);
        x.rules(8, 6);
        Due.due("19 40 and 0", x, x.softer(0), 0, 0);
        lay(x, 40, 10);
        x.rules(4, 5);
        Due.due("19 26 and 10", x, x.softer(0), 14, 0);
        Due.due("19 it isn't made softer", x, x.level(0, 0), 40, 0);
        lay(x, 1, 0);
        x.rules(8, 1);
        Due.due("19 not a 1", x, x.softer(0), 40, 0);
        x.rules(7, 1);
        Due.due("19 a 1", x, x.softer(0), 0, 0);
    }

    /** "(0 to 40)": 0 where nothing has to be softer. */
    private static void softerOfNone() {
        DiscCutter x = new DiscCutter();
        x.rules(20, 1);
        Due.due("19 an empty one", x, x.softer(0), 0, 0);
        Bench.flat(x, 0, 8, 40);
        x.lay(0, 0);
        Due.due("19 of 8 PARTS", x, x.softer(0), 0, 0);
        x.rules(8, 1);
        Bench.silent(x, 1, 400);
        Due.due("19 silent, LAND just 8 times FEED", x, x.softer(1), 0, 0);
    }

    /** "(there is none, if LAND alone is above 8 times FEED, and there are more than 8 PARTS)". */
    private static void softerNone() {
        DiscCutter x = new DiscCutter();
        lay(x, 40, 40);
        x.rules(8, 1);
        Due.due("19 LAND just 8 times FEED", x, x.softer(0), 40, 0);
        x.rules(9, 1);
        Due.due("19 LAND alone is above, 9 PARTS", x, x.softer(0), -1, 6);
        x.rules(16, 2);
        Due.due("19 LAND 16 by 16", x, x.softer(0), 40, 0);
        x.rules(17, 2);
        Due.due("19 LAND 17 by 16", x, x.softer(0), -1, 6);
        x.rules(20, 3);
        Due.due("19 LAND 20 by 24: twice 2", x, x.softer(0), 38, 0);
        x.rules(9, 1);
        Bench.silent(x, 0, 9);
        Due.due("19 silent ones, too", x, x.softer(0), -1, 6);
        Bench.silent(x, 0, 8);
        Due.due("19 no more than 8 PARTS", x, x.softer(0), 0, 0);
    }

    // ---- 20

    /** "Each LEVEL of a SIDE .. above a number is that (0 to 40): how many were". */
    private static void softenOf0To40() {
        DiscCutter x = new DiscCutter();
        Bench.song(x, 0, 40, 39, 1, 0, 40);
        x.lay(0, 0);
        x.lay(1, 0);
        int[] wrong = {DEEP, -1, 41, FAR};
        for (int level : wrong) {
            Due.due("20 LEVEL " + level, x, x.soften(0, level), -1, 1);
            Due.due("20 as it was", x, x.level(0, 0), 40, 0);
        }
        Due.due("20 none is above 40", x, x.soften(0, 40), 0, 0);
        Due.due("20 two are above 39", x, x.soften(0, 39), 2, 0);
        Due.due("20 the first", x, x.level(0, 0), 39, 0);
        Due.due("20 the last", x, x.level(0, 4), 39, 0);
        Due.due("20 none any more", x, x.soften(0, 39), 0, 0);
        Due.due("20 all but the silent one", x, x.soften(0, 0), 4, 0);
        for (int k = 0; k < 5; k++) {
            Due.due("20 silent", x, x.level(0, k), 0, 0);
        }
        Due.due("20 the other SIDE stays", x, x.level(1, 0), 40, 0);
        Due.due("20 the SONG stays", x, x.told(0, 2), 40, 0);
        x.lay(0, 0);
        Due.due("20 what is laid later", x, x.level(0, 5), 40, 0);
        x.anew(0);
        Due.due("20 of an empty one", x, x.soften(0, 0), 0, 0);
    }

    /** "how many were": of the PARTS that there are, not of those that were there. */
    private static void softenWhatIsThere() {
        DiscCutter x = new DiscCutter();
        Bench.flat(x, 0, 60, 40);
        x.lay(0, 0);
        x.anew(0);
        x.lead(0, 5);
        Due.due("20 five silent ones", x, x.soften(0, 0), 0, 0);
        x.lay(0, 0);
        Due.due("20 60 loud ones", x, x.soften(0, 39), 60, 0);
        Bench.silent(x, 1, 340);
        x.lay(1, 0);
        Due.due("20 of a full one", x, x.soften(1, 39), 60, 0);
        Due.due("20 of a full one, the last", x, x.level(1, 399), 39, 0);
    }

    /** "(not of its RING)". */
    private static void softenNotTheRing() {
        DiscCutter x = new DiscCutter();
        Bench.flat(x, 0, 8, 10);
        x.lay(0, 0);
        x.lock(0, 0);
        // the RING lies at 24: 13 is nearer to it than to 0
        x.knock(0, 13);
        Due.due("37 into the RING", x, x.heard(0, 1), 9, 0);
        Due.due("20 how many were, without the RING's", x, x.soften(0, 0), 8, 0);
        Due.due("26 the RING's LEVELS are 10 still", x, x.ring(0, 0), 14, 0);
        Due.due("34 LOCKED still", x, x.locked(0), 0, 0);
    }
}
