/** Promises 45 to 47, RUN and ERRORS: a test for each sentence that names an edge; what is quoted is the document's. */
public final class RunEdgesTest {
    /** 974 STEPS done, and nothing laid: 1, 9, 81, 729, 81; 1, 9, 63. */
    private static final String MANY = "again 9{again 9{again 9{side 0;}side 1;}}again 9{again 7{side 1;}}";

    public static void main(String[] args) {
        runWithoutASheet();
        bothSidesAnew();
        onSide0();
        partsOfBothSides();
        leadParts();
        fromOneOn();
        softAtMost();
        fadeOfOne();
        fadeAsFarAsThereAre();
        fadeBehindSoft();
        lockASide();
        againSoManyTimes();
        whenPartsCompare();
        whenRoomCompares();
        whenTheNameHasAMark();
        noSuchSong();
        fromNotBelowTo();
        toAboveItsParts();
        lockByASongOfFew();
        theSideIsLocked();
        moreThan400();
        roomThatCannotBe();
        lockOnAnEmptySide();
        moreThan1000Steps();
        theFirstStepThatHasOne();
        theLeastKind();
        allAsItWas();
        placesAsTheyWere();
        marksAsTheyWere();
        whatARunLeaves();
        errorAheadOfAny();
        errorOfTheLatest();
        placeOfTheFirstWord();
        marksInOrder();
        marksOfEight();
        markWhat();
        noneBehindANewSheet();
        Due.end();
    }

    // ---- 45

    /** "(9: there is no SHEET; ..". */
    private static void runWithoutASheet() {
        DiscCutter x = new DiscCutter();
        x.lead(0, 3);
        Due.due("45 no SHEET", x, x.run(), -1, 9);
        Due.due("45 nothing is anew", x, x.parts(0), 3, 0);
        Bench.sheet(x, "lead 0;");
        Due.due("45 a FAULT is no SHEET", x, x.run(), -1, 9);
        Due.due("45 nothing is anew", x, x.parts(0), 3, 0);
        Due.due("46 no run() yet", x.error(0), -1);
        x.sheet(0);
        Due.due("45 an empty one is a SHEET", x, x.run(), 0, 0);
        Due.due("45 anew", x, x.parts(0), 0, 0);
    }

    /** "RUN: both SIDES are anew". */
    private static void bothSidesAnew() {
        DiscCutter x = Texts.withSongs();
        for (int side = 0; side < 2; side++) {
            Bench.silent(x, side, 400);
            x.lock(side, 0);
        }
        Texts.runs(x, "side 1;lead 2;", 2);
        Due.due("45 SIDE 0", x, x.parts(0), 0, 0);
        Due.due("45 SIDE 1", x, x.parts(1), 2, 0);
        Due.due("45 SIDE 0 isn't LOCKED", x, x.locked(0), -1, 6);
        Due.due("45 SIDE 1 isn't LOCKED", x, x.locked(1), -1, 6);
        Due.due("45 once more", x, x.run(), 2, 0);
        Due.due("45 once more", x, x.parts(1), 2, 0);
    }

    /** "SIDE 0 is that on which STEPS lay. side: another one." */
    private static void onSide0() {
        DiscCutter x = Texts.withSongs();
        Texts.runs(x, "lead 1;side 0;lead 2;side 1;lead 4;side 1;lead 8;side 0;lead 16;side 1;", 31);
        Due.due("45 SIDE 0", x, x.parts(0), 19, 0);
        Due.due("45 SIDE 1", x, x.parts(1), 12, 0);
        Due.due("45 SIDE 0 again", x, x.run(), 31, 0);
        Due.due("45 SIDE 0 again", x, x.parts(0), 19, 0);
    }

    /** "RUN: how many PARTS both SIDES have then". */
    private static void partsOfBothSides() {
        DiscCutter x = Texts.withSongs();
        Texts.runs(x, "again 4{lead 100;}lock 0;side 1;again 4{lead 100;}lock 0;", 800);
        Due.due("45 without RINGS", x, x.parts(0) + x.parts(1), 800, 0);
        Texts.runs(x, "", 0);
    }

    // ---- RUN

    /** "lead: so many LEAD PARTS." */
    private static void leadParts() {
        DiscCutter x = Texts.withSongs();
        Texts.runs(x, "lead 1;", 1);
        Due.due("45 silent", x, x.level(0, 0), 0, 0);
        Due.due("38 of no SONG", x, x.songHeard(0, 0), -1, 0);
        Texts.runs(x, "lead 100;", 100);
    }

    /** "song: the PARTS of a SONG from one on (0) up to that ahead of one (its end)". */
    private static void fromOneOn() {
        DiscCutter x = Texts.withSongs();
        Texts.runs(x, "song 0;", 10);
        Texts.levels(x, 0, 1, 2, 3, 4, 5, 6, 7, 8, 9, 10);
        Texts.runs(x, "song 0 from 0 to 10;", 10);
        Texts.runs(x, "song 0 from 9;", 1);
        Texts.levels(x, 0, 10);
        Texts.runs(x, "song 0 to 1;", 1);
        Texts.levels(x, 0, 1);
        Texts.runs(x, "song 0 from 4 to 5;", 1);
        Texts.levels(x, 0, 5);
        Texts.runs(x, "song 2 from 59;song 2 from 59 to 60;song 2 to 60;", 62);
        Due.due("38 of the SONG", x, x.songHeard(0, 0), 2, 0);
    }

    /** "each LEVEL soft at most". */
    private static void softAtMost() {
        DiscCutter x = Texts.withSongs();
        Texts.runs(x, "song 0 soft 0;", 10);
        Texts.levels(x, 0, 0, 0, 0, 0, 0, 0, 0, 0, 0, 0);
        Texts.runs(x, "song 0 soft 9;", 10);
        Texts.levels(x, 0, 1, 2, 3, 4, 5, 6, 7, 8, 9, 9);
        Texts.runs(x, "song 0 soft 40;", 10);
        Texts.levels(x, 0, 1, 2, 3, 4, 5, 6, 7, 8, 9, 10);
        Texts.runs(x, "song 0 soft 1;song 0 to 2;", 12);
        Texts.levels(x, 0, 1, 1, 1, 1, 1, 1, 1, 1, 1, 1, 1, 2);
    }

    /** "fade f: of those laid the last one has its LEVEL times 1 by f and 1, the one ahead of it times 2". */
    private static void fadeOfOne() {
        DiscCutter x = Texts.withSongs();
        Texts.runs(x, "song 0 fade 1;", 10);
        Texts.levels(x, 0, 1, 2, 3, 4, 5, 6, 7, 8, 9, 5);
        Texts.runs(x, "song 0 fade 2;", 10);
        Texts.levels(x, 0, 1, 2, 3, 4, 5, 6, 7, 8, 6, 3);
        Texts.runs(x, "song 0 to 9 fade 1;", 9);
        Texts.levels(x, 0, 1, 2, 3, 4, 5, 6, 7, 8, 4);
        Texts.runs(x, "song 0 fade 9;", 10);
        Texts.levels(x, 0, 1, 2 * 9 / 10, 3 * 8 / 10, 4 * 7 / 10, 5 * 6 / 10, 6 * 5 / 10, 7 * 4 / 10, 8 * 3 / 10,
            9 * 2 / 10, 1);
    }

    /** "f PARTS, as far as there are (rounded down, ..". */
    private static void fadeAsFarAsThereAre() {
        DiscCutter x = Texts.withSongs();
        Texts.runs(x, "song 0 from 9 fade 1;", 1);
        Texts.levels(x, 0, 5);
        Texts.runs(x, "song 0 from 9 fade 9;", 1);
        Texts.levels(x, 0, 1);
        Texts.runs(x, "song 0 from 9 fade 10;", 1);
        Texts.levels(x, 0, 0);
        Texts.runs(x, "lead 2;song 0 from 8 fade 60;", 4);
        Texts.levels(x, 0, 0, 0, 0, 0);
        Texts.runs(x, "song 2 fade 60;", 60);
        for (int k = 0; k < 60; k++) {
            Due.due("45 fade 60, PART " + k, x, x.level(0, k), (k % 10 + 1) * (60 - k) / 61, 0);
        }
        Texts.runs(x, "song 2 fade 59;", 60);
        Due.due("45 fade 59, the first", x, x.level(0, 0), 1, 0);
        Due.due("45 fade 59, the second", x, x.level(0, 1), 2 * 59 / 60, 0);
        Bench.flat(x, 0, 60, 40);
        Texts.runs(x, "song 3 fade 60;", 60);
        Due.due("45 40 times 60 by 61", x, x.level(0, 0), 39, 0);
        Due.due("45 40 by 61", x, x.level(0, 59), 0, 0);
    }

    /** "behind soft". */
    private static void fadeBehindSoft() {
        DiscCutter x = Texts.withSongs();
        Texts.runs(x, "song 0 from 7 soft 4 fade 3;", 3);
        Texts.levels(x, 0, 3, 2, 1);
        Texts.runs(x, "song 0 from 7 fade 3 soft 4;", 3);
        Texts.levels(x, 0, 3, 2, 1);
        Texts.runs(x, "song 0 from 7 fade 1 soft 9;", 3);
        Texts.levels(x, 0, 8, 9, 4);
    }

    /** "lock: the SIDE is LOCKED by the SONG." */
    private static void lockASide() {
        DiscCutter x = Texts.withSongs();
        Texts.runs(x, "side 1;lead 1;lock 2;", 1);
        Due.due("34 SIDE 1", x, x.locked(1), 2, 0);
        Due.due("34 SIDE 0", x, x.locked(0), -1, 6);
        Due.due("12 LOCKED", x, x.lay(1, 0), 7);
        Due.due("38 the RING", x, x.songHeard(1, 1), 2, 0);
    }

    /** "again: its STEPS so many times." */
    private static void againSoManyTimes() {
        DiscCutter x = Texts.withSongs();
        Texts.runs(x, "again 0{song 9;lead 100;}lead 1;", 1);
        Texts.runs(x, "again 1{lead 3;}", 3);
        Texts.runs(x, "again 9{lead 3;}", 27);
        Texts.runs(x, "again 9{}", 0);
        Texts.runs(x, "again 3{lead 1;again 3{lead 2;}}", 21);
        Texts.runs(x, "again 2{again 2{again 2{again 2{}lead 1;}}}", 8);
    }

    /** "when: if the SIDE's number of PARTS .. compares so". */
    private static void whenPartsCompare() {
        DiscCutter x = Texts.withSongs();
        Texts.runs(x, "lead 5;when parts<5{lead 10;}else{lead 20;}", 25);
        Texts.runs(x, "lead 5;when parts<6{lead 10;}else{lead 20;}", 15);
        Texts.runs(x, "lead 5;when parts>5{lead 10;}else{lead 20;}", 25);
        Texts.runs(x, "lead 5;when parts>4{lead 10;}else{lead 20;}", 15);
        Texts.runs(x, "lead 5;when parts>5{lead 10;}", 5);
        Texts.runs(x, "when parts<0{lead 1;}when parts>0{lead 2;}when parts<1{lead 4;}", 4);
        Texts.runs(x, "lead 5;side 1;when parts<1{lead 10;}", 15);
        Texts.runs(x, "again 4{lead 100;}when parts<9999{}else{side 1;lead 1;}when parts>399{side 1;lead 2;}", 402);
        Texts.runs(x, "lead 5;lock 0;when parts>5{side 1;lead 1;}", 5);
    }

    /** "or its ROOM, compares so". */
    private static void whenRoomCompares() {
        DiscCutter x = Texts.withSongs();
        Texts.runs(x, "when room<1{lead 1;}", 1);
        Texts.runs(x, "when room>0{lead 1;}", 0);
        // nine silent PARTS have ROOM 4
        Texts.runs(x, "lead 9;when room<4{lead 10;}else{lead 20;}", 29);
        Texts.runs(x, "lead 9;when room<5{lead 10;}else{lead 20;}", 19);
        Texts.runs(x, "lead 9;when room>4{lead 10;}else{lead 20;}", 29);
        Texts.runs(x, "lead 9;when room>3{lead 10;}else{lead 20;}", 19);
        // one PART of LEVEL 10 has ROOM 10
        Texts.runs(x, "lead 9;side 1;song 0 from 9;when room>9{lead 1;}", 11);
        Texts.runs(x, "lead 9;side 1;song 0 from 9;when room>10{lead 1;}", 10);
        x.rules(20, 8);
        Texts.runs(x, "lead 9;when room<21{lead 10;}", 19);
    }

    /** "or the NAME has a MARK: its STEPS, else those of else." */
    private static void whenTheNameHasAMark() {
        DiscCutter x = Texts.withSongs();
        Texts.runs(x, "when have a{lead 1;}else{lead 2;}", 2);
        Texts.runs(x, "mark a;when have a{lead 1;}else{lead 2;}", 1);
        Texts.runs(x, "mark b;when have a{lead 1;}else{lead 2;}", 2);
        Texts.runs(x, "again 0{mark a;}when have a{lead 1;}else{lead 2;}", 2);
        Texts.runs(x, "side 1;mark a;side 0;when have a{lead 1;}else{lead 2;}", 1);
        Texts.runs(x, "again 2{when have a{lead 1;}else{lead 2;}mark a;}", 3);
        Due.due("45 no MARK is made at first", x, x.run(), 3, 0);
        Texts.runs(x, "mark a;when have a{when have a{when have a{lead 1;when have a{}}}}", 1);
        Texts.runs(x, "when have a{}else{when have a{}else{when have a{}else{lead 2;when have a{}}}}", 2);
    }

    // ---- ERRORS

    /** "1 no such SONG". */
    private static void noSuchSong() {
        DiscCutter x = Texts.withSongs();
        Texts.runs(x, "song 2;lock 2;", 60);
        Texts.fails(x, "|song 3;", 1);
        Texts.fails(x, "|song 9;", 1);
        Texts.fails(x, "lead 1;|lock 3;", 1);
        Texts.fails(x, "lead 1;|lock 9;", 1);
        DiscCutter y = new DiscCutter();
        Texts.fails(y, "|song 0;", 1);
        Texts.fails(y, "lead 1;|lock 0;", 1);
        Bench.sheet(y, "song 0;");
        Due.due("45 not there yet", y, y.run(), -1, 10);
        Bench.flat(y, 0, 5, 1);
        Due.due("45 there now", y, y.run(), 5, 0);
    }

    /** "from not below to". */
    private static void fromNotBelowTo() {
        DiscCutter x = Texts.withSongs();
        Texts.runs(x, "song 0 from 4 to 5;", 1);
        Texts.fails(x, "|song 0 from 5 to 5;", 1);
        Texts.fails(x, "|song 0 from 6 to 5;", 1);
        Texts.fails(x, "|song 0 to 5 from 6;", 1);
        Texts.runs(x, "song 0 from 9;", 1);
        Texts.fails(x, "|song 0 from 10;", 1);
        Texts.fails(x, "|song 0 from 59;", 1);
        Texts.fails(x, "|song 0 from 11 to 12;", 1);
        Texts.runs(x, "song 2 from 59;", 1);
    }

    /** "to above its PARTS". */
    private static void toAboveItsParts() {
        DiscCutter x = Texts.withSongs();
        Texts.runs(x, "song 0 to 10;", 10);
        Texts.fails(x, "|song 0 to 11;", 1);
        Texts.fails(x, "|song 0 to 60;", 1);
        Texts.runs(x, "song 1 from 6 to 7;", 1);
        Texts.fails(x, "|song 1 from 6 to 8;", 1);
        Texts.runs(x, "song 2 to 60;", 60);
    }

    /** "of lock a SONG of fewer than 8 PARTS". */
    private static void lockByASongOfFew() {
        DiscCutter x = Texts.withSongs();
        Texts.fails(x, "lead 1;|lock 1;", 1);
        Bench.flat(x, 0, 8, 1);
        Texts.runs(x, "lead 1;lock 3;", 1);
        Due.due("34 by SONG 3", x, x.locked(0), 3, 0);
    }

    /** "2 the SIDE is LOCKED." */
    private static void theSideIsLocked() {
        DiscCutter x = Texts.withSongs();
        Texts.fails(x, "lead 1;lock 0;|lead 1;", 2);
        Texts.fails(x, "lead 1;lock 0;|song 0;", 2);
        Texts.fails(x, "lead 1;lock 0;|lock 0;", 2);
        Texts.fails(x, "lead 1;lock 0;|lock 2;", 2);
        Texts.runs(x, "lead 1;lock 0;side 1;lead 1;song 0;lock 2;", 12);
        Texts.runs(x, "lead 1;lock 0;mark a;when parts<2{again 1{side 0;}}when room<1{}", 1);
        x.lead(1, 1);
        Due.due("45 LOCKED ahead of RUN doesn't count", x, x.run(), 1, 0);
    }

    /** "3 more than 400 PARTS on it." */
    private static void moreThan400() {
        DiscCutter x = Texts.withSongs();
        Texts.runs(x, "again 4{lead 100;}", 400);
        Texts.fails(x, "again 4{lead 100;}|lead 1;", 3);
        Texts.runs(x, "again 3{lead 100;}lead 99;song 0 to 1;", 400);
        Texts.fails(x, "again 3{lead 100;}lead 99;|song 0 to 2;", 3);
        Texts.fails(x, "again 3{lead 100;}lead 91;|song 0;", 3);
        Texts.runs(x, "again 3{lead 100;}lead 90;song 0;", 400);
        Texts.runs(x, "again 3{lead 100;}lead 40;song 2;side 1;lead 1;", 401);
        Texts.fails(x, "again 3{lead 100;}lead 41;|song 2;", 3);
        Texts.runs(x, "again 4{lead 100;}mark a;lock 0;when parts>399{}", 400);
        Due.due("47 400 PARTS", x, x.mark(0, 1), 400, 0);
    }

    /** "4 ROOM of a SIDE that CAN'T be cut." */
    private static void roomThatCannotBe() {
        DiscCutter x = Texts.withSongs();
        x.rules(9, 1);
        Texts.runs(x, "lead 8;when room<1{lead 1;}", 9);
        Texts.fails(x, "lead 9;|when room<1{}", 4);
        Texts.fails(x, "lead 9;|when room>9999{}else{}", 4);
        Texts.runs(x, "lead 9;when parts<1{}when have a{}side 1;when room<1{lead 1;}", 10);
        x.rules(8, 1);
        Texts.runs(x, "lead 9;when room<9{lead 1;}", 10);
    }

    /** "5 lock on an empty SIDE." */
    private static void lockOnAnEmptySide() {
        DiscCutter x = Texts.withSongs();
        Texts.fails(x, "|lock 0;", 5);
        Texts.fails(x, "lead 1;side 1;|lock 0;", 5);
        Texts.runs(x, "lead 1;lock 0;", 1);
        x.lead(1, 5);
        Texts.fails(x, "side 1;|lock 0;", 5);
    }

    /** "6 more than 1,000 STEPS done in all, each one counted as often as it is done (at that one)." */
    private static void moreThan1000Steps() {
        DiscCutter x = Texts.withSongs();
        String thousand = MANY + Texts.times("side 0;", 26);
        Texts.runs(x, thousand, 0);
        String[] more = {"|side 0;", "|lead 1;", "|song 0;", "|mark a;", "|again 0{}", "|when have a{}",
            "|when room<1{}"};
        for (String step : more) {
            Texts.fails(x, thousand + step, 6);
        }
        Texts.runs(x, MANY + Texts.times("side 0;", 25) + "again 9{}", 0);
        Texts.fails(x, MANY + Texts.times("side 0;", 25) + "again 9{|lead 1;}", 6);
        Texts.runs(x, MANY + Texts.times("side 0;", 24) + "when have a{}else{lead 1;}", 1);
        Texts.fails(x, MANY + Texts.times("side 0;", 24) + "when have a{}else{lead 1;|lead 1;}", 6);
        Texts.runs(x, MANY + Texts.times("side 0;", 16) + "again 9{lead 1;}", 9);
        Texts.fails(x, MANY + Texts.times("side 0;", 17) + "again 9{|lead 1;}", 6);
        Texts.runs(x, MANY + Texts.times("side 0;", 25) + "again 0{lead 1;lead 1;}", 0);
    }

    /** "at the first STEP that has one". */
    private static void theFirstStepThatHasOne() {
        DiscCutter x = Texts.withSongs();
        Texts.fails(x, "|lock 0;song 9;", 5);
        Texts.fails(x, "lead 1;lock 0;|lead 1;song 9;", 2);
        Texts.fails(x, "again 5{|lead 100;}song 9;", 3);
        Texts.fails(x, "when have a{song 9;}else{|lock 0;}song 9;", 5);
        Texts.runs(x, "when have a{song 9;}again 0{lock 9;}", 0);
        Texts.fails(x, "again 2{when have a{|song 9;}mark a;}", 1);
    }

    /** "of one STEP the least kind". */
    private static void theLeastKind() {
        DiscCutter x = Texts.withSongs();
        Texts.fails(x, "lead 1;lock 0;|song 9;", 1);
        Texts.fails(x, "lead 1;lock 0;|lock 1;", 1);
        Texts.fails(x, "|lock 1;", 1);
        Texts.fails(x, "again 4{lead 100;}|song 9;", 1);
        Texts.fails(x, "again 4{lead 100;}|song 0 to 11;", 1);
        Texts.fails(x, "again 4{lead 100;}lock 0;|lead 1;", 2);
        Texts.fails(x, "again 4{lead 100;}lock 0;|song 0;", 2);
        String thousand = MANY + Texts.times("side 0;", 26);
        Texts.fails(x, thousand + "|song 9;", 1);
        Texts.fails(x, thousand + "|lock 0;", 5);
        Texts.fails(x, MANY + Texts.times("side 0;", 21) + "again 3{lead 100;}lead 100;|lead 1;", 3);
        Texts.fails(x, MANY + Texts.times("side 0;", 24) + "lead 1;lock 0;|lead 1;", 2);
        x.rules(9, 1);
        Texts.fails(x, MANY + Texts.times("side 0;", 25) + "lead 9;|when room<1{}", 4);
    }

    /** "All is as it was ahead of RUN then". */
    private static void allAsItWas() {
        DiscCutter x = Texts.withSongs();
        x.lead(0, 2);
        x.lay(0, 1);
        x.soften(0, 6);
        x.lock(0, 0);
        x.lead(1, 3);
        int room = x.room(0);
        int beside = x.roomBeside();
        Texts.fails(x, "side 1;song 0;lock 2;side 0;song 2;lead 100;|song 9;", 1);
        Texts.levels(x, 0, 0, 0, 1, 2, 3, 4, 5, 6, 6);
        Texts.levels(x, 1, 0, 0, 0);
        Due.due("45 LOCKED as it was", x, x.locked(0), 0, 0);
        Due.due("45 not LOCKED as it was", x, x.locked(1), -1, 6);
        Due.due("45 a LEAD PART as it was", x, x.songHeard(0, 1), -1, 0);
        Due.due("45 of the SONG as it was", x, x.songHeard(0, 2), 1, 0);
        Due.due("45 ROOM as it was", x, x.room(0), room, 0);
        Due.due("45 BESIDE as it was", x, x.roomBeside(), beside, 0);
        x.anew(0);
        x.anew(1);
        Due.due("45 once more", x, x.run(), -1, 10);
        Due.due("45 empty as it was", x, x.parts(0) + x.parts(1), 0, 0);
        Bench.silent(x, 1, 400);
        Due.due("45 once more", x, x.run(), -1, 10);
        Due.due("45 full as it was", x, x.parts(1), 400, 0);
    }

    /** "All is as it was": also PLACES, when RUN has asked for those of its own. */
    private static void placesAsTheyWere() {
        DiscCutter x = Texts.withSongs();
        Bench.silent(x, 0, 17);
        Bench.silent(x, 1, 9);
        Due.due("15 ahead of RUN", x, x.place(0, 16), 8, 0);
        Texts.fails(x, "song 2;when room<9999{|song 9;}", 1);
        Due.due("15 as it was", x, x.place(0, 16), 8, 0);
        Due.due("15 as it was", x, x.place(0, 8), 4, 0);
        Due.due("40 as it was", x, x.placeBeside(0, 16), 16, 0);
        Texts.fails(x, "side 1;song 2;when room<9999{side 0;|lock 0;}", 5);
        Due.due("16 as it was", x, x.room(1), 4, 0);
        Due.due("41 as it was", x, x.roomBeside(), 16, 0);
        x.rules(9, 1);
        Texts.fails(x, "lead 9;|when room<9{}", 4);
        x.anew(0);
        x.lead(0, 8);
        Texts.fails(x, "lead 9;|when room<9{}", 4);
        Due.due("15 it CAN be cut, as it could", x, x.place(0, 7), 0, 0);
    }

    /** "also MARKS". */
    private static void marksAsTheyWere() {
        DiscCutter x = Texts.withSongs();
        Texts.runs(x, "mark a;lead 9;mark b;when room>4{lead 1;mark c;mark a;}", 9);
        x.rules(5, 8);
        Due.due("45 three MARKS", x, x.run(), 10, 0);
        int[] due = {10, 9, 10};
        x.rules(9, 1);
        for (int round = 0; round < 2; round++) {
            Due.due("45 an ERROR behind two MARKS", x, x.run(), -1, 10);
            for (int k = 0; k < 3; k++) {
                Due.due("47 as it was", x, x.mark(k, 1), due[k], 0);
            }
        }
        x.rules(4, 8);
        Due.due("45 two MARKS", x, x.run(), 9, 0);
        Due.due("47 the first", x, x.mark(0, 1), 0, 0);
        Due.due("47 no third", x, x.mark(2, 1), -1, 6);
        Bench.sheet(x, "mark a;song 9;");
        Due.due("45 an ERROR, ahead of which there was none", x, x.run(), -1, 10);
        Due.due("47 none", x, x.mark(0, 1), -1, 6);
    }

    /** RUN is of SIDES and MARKS alone: the tape, KNOCKS, CLICKS and the rest stay. */
    private static void whatARunLeaves() {
        DiscCutter x = Texts.withSongs();
        Bench.sheet(x, "lead 40;");
        x.knock(0, 4);
        x.click(1, 1);
        x.most(100);
        x.rules(4, 8);
        Bench.put(x, "lead 3;");
        Due.due("45 run()", x, x.run(), 40, 0);
        Due.due("37 the KNOCK", x, x.heard(0, 1), 9, 0);
        Due.due("32 the CLICK", x, x.cover(), 1, 0);
        Due.due("5 the TRAY", x, x.read(0, 59), 10, 0);
        Due.due("43 the tape", x, x.sheet(7), 1, 0);
        Due.due("13 a SHEET that isn't run lays nothing", x, x.parts(0), 40, 0);
    }

    // ---- 46

    /** "NONE for others, and ahead of any." */
    private static void errorAheadOfAny() {
        DiscCutter x = new DiscCutter();
        for (int what = -1; what < 3; what++) {
            Due.due("46 ahead of any", x.error(what), -1);
        }
        x.run();
        Due.due("46 STATUS 9 is none", x.error(0), -1);
        x.sheet(0);
        Due.due("46 a SHEET is no run()", x.error(0), -1);
        x.run();
        Due.due("46 without one", x.error(0), 0);
        Due.due("46 without one", x.error(1), -1);
        int[] others = {Bench.DEEP, -1, 2, Bench.FAR};
        for (int what : others) {
            Due.due("46 what " + what, x.error(what), -1);
        }
        Texts.fails(x, "|lock 0;", 1);
        for (int what : others) {
            Due.due("46 what " + what, x.error(what), -1);
        }
    }

    /** "Of the latest run() with STATUS 0 or 10". */
    private static void errorOfTheLatest() {
        DiscCutter x = Texts.withSongs();
        Texts.fails(x, "lead 1;|song 9;", 1);
        Bench.sheet(x, "lead 1;");
        Due.due("46 behind a new SHEET", x.error(0), 1);
        Due.due("46 behind a new SHEET", x.error(1), 7);
        Bench.sheet(x, "#");
        Due.due("46 behind a FAULT", x.error(0), 1);
        x.run();
        Due.due("46 behind another run()", x.error(0), 0);
        Due.due("46 behind another run()", x.error(1), -1);
        Texts.fails(x, "|lock 0;", 5);
    }

    /** "1: the place of its STEP's first WORD in the text". */
    private static void placeOfTheFirstWord() {
        DiscCutter x = Texts.withSongs();
        Texts.fails(x, "|song 9 from 1;", 1);
        Texts.fails(x, " \n |song 0 from 5 to 5;", 1);
        Texts.fails(x, "again 2{when parts>3{|lock 1;}lead 4;}", 1);
        Texts.fails(x, "when have a{}else{ |lock 0;}", 5);
        x.rules(9, 1);
        Texts.fails(x, "again 1{lead 9; |when room<3{lead 1;}}", 4);
        String far = Texts.times(" ", 593) + "|song 9;";
        Texts.fails(x, far, 1);
    }

    // ---- 47

    /** "Of the k-th MARK that there is, by the order in which NAMES stand first in the SHEET". */
    private static void marksInOrder() {
        DiscCutter x = Texts.withSongs();
        Texts.runs(x, "again 0{mark c;}when have b{}lead 1;mark a;lead 1;mark b;side 1;mark c;", 2);
        int[][] due = {{1, 0}, {0, 2}, {0, 1}};
        for (int k = 0; k < 3; k++) {
            Due.due("47 the SIDE of " + k, x, x.mark(k, 0), due[k][0], 0);
            Due.due("47 PARTS of " + k, x, x.mark(k, 1), due[k][1], 0);
        }
        Due.due("47 no more", x, x.mark(3, 0), -1, 6);
        Texts.runs(x, "when have a{}mark b;mark c;", 0);
        Due.due("47 a has none: b is the first", x, x.mark(0, 1), 0, 0);
        Due.due("47 c is the second", x, x.mark(1, 1), 0, 0);
        Due.due("47 no third", x, x.mark(2, 1), -1, 6);
        Texts.runs(x, "mark a;lead 1;mark a;lead 1;side 1;mark a;lead 1;", 3);
        Due.due("47 the latest of one NAME: its SIDE", x, x.mark(0, 0), 1, 0);
        Due.due("47 the latest of one NAME: PARTS", x, x.mark(0, 1), 0, 0);
        Due.due("47 one NAME, one MARK", x, x.mark(1, 0), -1, 6);
    }

    /** All eight NAMES. */
    private static void marksOfEight() {
        DiscCutter x = Texts.withSongs();
        Texts.runs(x, "mark h;lead 1;mark g;lead 1;mark f;lead 1;mark e;lead 1;mark d;lead 1;mark c;lead 1;"
            + "mark b;lead 1;mark a;", 7);
        for (int k = 0; k < 8; k++) {
            Due.due("47 the one numbered " + k, x, x.mark(k, 1), k, 0);
        }
        Due.due("47 no ninth", x, x.mark(8, 1), -1, 6);
    }

    /** "what 0: its SIDE, 1: PARTS (1: k below 0, what; 6)". */
    private static void markWhat() {
        DiscCutter x = Texts.withSongs();
        Due.due("47 no SHEET", x, x.mark(0, 0), -1, 6);
        Due.due("47 1 ahead of 6", x, x.mark(-1, 0), -1, 1);
        Due.due("47 1 ahead of 6", x, x.mark(0, 2), -1, 1);
        Texts.runs(x, "lead 3;mark a;", 3);
        Due.due("47 its SIDE", x, x.mark(0, 0), 0, 0);
        Due.due("47 PARTS", x, x.mark(0, 1), 3, 0);
        int[] wrong = {Bench.DEEP, -1, 2, Bench.FAR};
        for (int what : wrong) {
            Due.due("47 what " + what, x, x.mark(0, what), -1, 1);
        }
        Due.due("47 k -1", x, x.mark(-1, 0), -1, 1);
        Due.due("47 k far below 0", x, x.mark(Bench.DEEP, 0), -1, 1);
        Due.due("47 k 1", x, x.mark(1, 0), -1, 6);
        Due.due("47 k far off", x, x.mark(Bench.FAR, 0), -1, 6);
    }

    /** "There are none behind a new SHEET." */
    private static void noneBehindANewSheet() {
        DiscCutter x = Texts.withSongs();
        Texts.runs(x, "lead 3;mark a;", 3);
        x.anew(0);
        x.press();
        Due.due("47 it stays, whatever is laid", x, x.mark(0, 1), 3, 0);
        Bench.sheet(x, "mark");
        Due.due("47 behind a FAULT", x, x.mark(0, 1), 3, 0);
        x.sheet(1);
        Due.due("47 behind STATUS 1", x, x.mark(0, 1), 3, 0);
        Bench.sheet(x, "lead 3;mark a;");
        Due.due("47 behind a new SHEET, though it is the same", x, x.mark(0, 1), -1, 6);
        x.run();
        Due.due("47 run", x, x.mark(0, 1), 3, 0);
        x.sheet(0);
        Due.due("47 behind an empty SHEET", x, x.mark(0, 1), -1, 6);
    }
}
