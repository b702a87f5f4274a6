/** Promises 21 to 27: a test for each sentence that names an edge; what is quoted is the document's. */
public final class OrderEdgesTest {
    private static final int FAR = Bench.FAR;
    private static final int DEEP = Bench.DEEP;

    public static void main(String[] args) {
        mostOf1To400();
        mostAtFirst();
        atMostMostOnEach();
        orderOfNoSongs();
        orderOfOne();
        orderOfTen();
        leastLoss();
        sideBySide();
        theLesserSong();
        orderFollowsChanges();
        sideOfASong();
        songAtAPlace();
        pressByBest();
        pressOfNoSongs();
        pressOf400();
        pressThatCannotBe();
        ringOfEight();
        ringOfEmpty();
        ringOfCannot();
        ringBehindFew();
        ringBehindMany();
        ringChangesNothing();
        inTime1To8();
        Due.end();
    }

    private static void songs(DiscCutter x, int high, int... lengths) {
        for (int length : lengths) {
            Bench.flat(x, high, length, 0);
        }
    }

    /** One sign for each SONG, its SIDE. */
    private static void sides(String what, DiscCutter x, String due) {
        StringBuilder got = new StringBuilder();
        for (int song = 0; song < due.length(); song++) {
            got.append(x.sideOf(song));
        }
        Due.due(what + ": SIDES " + got + ", due are " + due, got.toString().equals(due), true);
    }

    /** The SONGS of a SIDE, from its beginning on, and no more. */
    private static void row(String what, DiscCutter x, int side, int... due) {
        for (int k = 0; k < due.length; k++) {
            Due.due(what + ": songAt(" + side + ", " + k + ")", x, x.songAt(side, k), due[k], 0);
        }
        Due.due(what + ": no more", x, x.songAt(side, due.length), -1, 6);
    }

    // ---- 21

    /** "at most MOST PARTS on each (1 to 400; ..". */
    private static void mostOf1To400() {
        DiscCutter x = new DiscCutter();
        songs(x, 0, 1, 1);
        Due.due("21 1", x, x.most(1), 0);
        sides("21 one on each", x, "01");
        int[] wrong = {DEEP, -1, 0, 401, FAR};
        for (int parts : wrong) {
            Due.due("21 " + parts, x, x.most(parts), 1);
            sides("21 it stays 1", x, "01");
        }
        songs(x, 0, 60, 60, 60, 60, 60, 60, 38);
        Due.due("21 399", x, x.most(399), 0);
        sides("21 the last one of 38 on the other", x, "000000001");
        Due.due("21 400", x, x.most(400), 0);
        sides("21 all 400 on one", x, "000000000");
    }

    /** "200 at first". */
    private static void mostAtFirst() {
        DiscCutter x = new DiscCutter();
        songs(x, 0, 60, 60, 60, 20, 60, 60, 60, 20);
        Due.due("21 200 on each", x, x.order(), 0, 0);
        sides("21 200 on each", x, "00001111");
        songs(x, 0, 1);
        Due.due("21 201 on one of them", x, x.order(), -1, 5);
    }

    // ---- 22

    /** "all SONGS on two SIDES, each whole, .. at most MOST PARTS on each"; "(5: there is none)". */
    private static void atMostMostOnEach() {
        DiscCutter x = new DiscCutter();
        songs(x, 0, 30, 40, 30, 20);
        x.most(60);
        Due.due("22 just so", x, x.order(), 0, 0);
        sides("22 30 and 30, 40 and 20", x, "0101");
        x.most(59);
        Due.due("22 one less", x, x.order(), -1, 5);
        x.most(69);
        sides("22 70 are too many still", x, "0101");
        x.most(70);
        sides("22 70 are fine", x, "0011");
        x.most(39);
        Due.due("22 not even one of them alone", x, x.order(), -1, 5);
    }

    /** "LOSS of BEST ORDER together": of no SONGS. */
    private static void orderOfNoSongs() {
        DiscCutter x = new DiscCutter();
        Due.due("22 no SONGS", x, x.order(), 0, 0);
        x.most(1);
        Due.due("22 no SONGS, MOST 1", x, x.order(), 0, 0);
        Due.due("24 none on SIDE 0", x, x.songAt(0, 0), -1, 6);
        Due.due("24 none on SIDE 1", x, x.songAt(1, 0), -1, 6);
        Due.due("23 no such SONG", x, x.sideOf(0), -1, 1);
    }

    /** "HIGH times the number of PARTS ahead of it on its SIDE": the first one loses nothing. */
    private static void orderOfOne() {
        DiscCutter x = new DiscCutter();
        songs(x, 9, 60);
        Due.due("22 one SONG", x, x.order(), 0, 0);
        sides("22 on SIDE 0", x, "0");
        row("22 on SIDE 0", x, 0, 0);
        row("22 on SIDE 1", x, 1);
        x.most(60);
        Due.due("22 MOST just so", x, x.order(), 0, 0);
        x.most(59);
        Due.due("22 MOST one less", x, x.order(), -1, 5);
    }

    /** The most SONGS, the longest and the highest. */
    private static void orderOfTen() {
        DiscCutter x = new DiscCutter();
        songs(x, 9, 60, 60, 60, 60, 60, 60, 60, 60, 60, 60);
        Due.due("22 600 PARTS on twice 200", x, x.order(), -1, 5);
        x.most(299);
        Due.due("22 on twice 299", x, x.order(), -1, 5);
        x.most(300);
        Due.due("22 on twice 300", x, x.order(), 10800, 0);
        sides("22 the first of several", x, "0000011111");
        x.most(400);
        Due.due("22 on twice 400", x, x.order(), 10800, 0);
        row("22 SIDE 0", x, 0, 0, 1, 2, 3, 4);
        row("22 SIDE 1", x, 1, 5, 6, 7, 8, 9);
        DiscCutter y = new DiscCutter();
        songs(y, 0, 60, 60, 60, 60, 60, 60, 60, 60, 60, 60);
        y.most(400);
        Due.due("22 without HIGH", y, y.order(), 0, 0);
        sides("22 as many as can be on SIDE 0", y, "0000001111");
    }

    /** "BEST: the least LOSS together". */
    private static void leastLoss() {
        DiscCutter x = new DiscCutter();
        songs(x, 1, 10);
        songs(x, 2, 10);
        songs(x, 3, 10);
        // the lesser two behind one another, the greater one of them ahead
        Due.due("22 three SONGS", x, x.order(), 10, 0);
        sides("22 three SONGS", x, "001");
        row("22 three SONGS", x, 0, 1, 0);
        x.most(20);
        Due.due("22 MOST just so", x, x.order(), 10, 0);
        songs(x, 9, 1);
        // behind the short one 1, 2 or 3 is lost, beside it 20, 10 or 10
        Due.due("22 four SONGS", x, x.order(), 12, 0);
        sides("22 four SONGS", x, "0101");
        row("22 the greater HIGH ahead", x, 0, 2, 0);
        row("22 the short one ahead", x, 1, 3, 1);
        x.most(19);
        Due.due("22 no room for two long ones", x, x.order(), -1, 5);
    }

    /** "of several the first: SONG by SONG, by number, SIDE 0 ahead of 1". */
    private static void sideBySide() {
        DiscCutter x = new DiscCutter();
        songs(x, 0, 5, 5);
        sides("22 none loses: both on SIDE 0", x, "00");
        x.most(5);
        sides("22 one on each", x, "01");
        x.most(200);
        songs(x, 1, 5);
        sides("22 the one with HIGH is ahead of both", x, "000");
        row("22 the one with HIGH is ahead of both", x, 0, 2, 0, 1);
        songs(x, 1, 5);
        sides("22 a like one goes to the other SIDE", x, "0001");
        row("22 SIDE 0", x, 0, 2, 0, 1);
        row("22 SIDE 1", x, 1, 3);
    }

    /** "then on each SIDE, from its beginning on, the lesser SONG". */
    private static void theLesserSong() {
        DiscCutter x = new DiscCutter();
        songs(x, 0, 1, 60, 7);
        songs(x, 1, 3);
        songs(x, 2, 6);
        songs(x, 3, 9);
        x.most(77);
        // SONGS 3, 4 and 5 have the like HIGH by PARTS
        Due.due("22 2 times 3, whichever is ahead", x, x.order(), 6, 0);
        sides("22 the last on SIDE 1", x, "000001");
        row("22 by number among like ones", x, 0, 3, 4, 0, 1, 2);
        row("22 alone", x, 1, 5);
    }

    /** BEST is always of all SONGS and of MOST of now. */
    private static void orderFollowsChanges() {
        DiscCutter x = new DiscCutter();
        songs(x, 1, 10, 10);
        Due.due("22 one on each", x, x.order(), 0, 0);
        songs(x, 1, 10);
        Due.due("22 a third one", x, x.order(), 10, 0);
        x.most(10);
        Due.due("22 no room", x, x.order(), -1, 5);
        x.most(20);
        Due.due("22 room again", x, x.order(), 10, 0);
        x.lead(0, 100);
        x.rules(20, 1);
        Due.due("22 whatever is laid", x, x.order(), 10, 0);
    }

    // ---- 23, 24

    /** "The SIDE of a SONG in it (1, 5)". */
    private static void sideOfASong() {
        DiscCutter x = new DiscCutter();
        Due.due("23 no SONG at all", x, x.sideOf(0), -1, 1);
        songs(x, 1, 5, 5);
        Due.due("23 the first", x, x.sideOf(0), 0, 0);
        Due.due("23 the last", x, x.sideOf(1), 1, 0);
        int[] wrong = {DEEP, -1, 2, 10, FAR};
        for (int song : wrong) {
            Due.due("23 SONG " + song, x, x.sideOf(song), -1, 1);
        }
        x.most(4);
        Due.due("23 there is none", x, x.sideOf(0), -1, 5);
        for (int song : wrong) {
            Due.due("23 1 ahead of 5, SONG " + song, x, x.sideOf(song), -1, 1);
        }
    }

    /** "The k-th SONG on a SIDE in it (1; 5; 6)". */
    private static void songAtAPlace() {
        DiscCutter x = new DiscCutter();
        songs(x, 0, 5, 5, 5);
        row("24 SIDE 0", x, 0, 0, 1, 2);
        row("24 SIDE 1", x, 1);
        int[] wrong = {DEEP, -1, 3, FAR};
        for (int k : wrong) {
            Due.due("24 the one numbered " + k, x, x.songAt(0, k), -1, 6);
        }
        x.most(7);
        Due.due("24 there is none", x, x.songAt(0, 0), -1, 5);
        Due.due("24 5 ahead of 6", x, x.songAt(0, -1), -1, 5);
        Due.due("24 1 ahead of 5", x, x.songAt(2, 0), -1, 1);
    }

    // ---- 25

    /** "Both SIDES are laid anew by BEST ORDER, SONGS alone, one right behind the other, and not LOCKED". */
    private static void pressByBest() {
        DiscCutter x = new DiscCutter();
        Bench.song(x, 0, 1, 2);
        Bench.song(x, 9, 3, 4, 5, 6, 7, 8, 9, 10);
        Bench.song(x, 9, 11);
        for (int side = 0; side < 2; side++) {
            x.lead(side, 100);
            x.lock(side, 1);
        }
        Due.due("25 press()", x, x.press(), 0);
        int[][] due = {{3, 4, 5, 6, 7, 8, 9, 10, 1, 2}, {11}};
        for (int side = 0; side < 2; side++) {
            Due.due("25 SONGS alone", x, x.parts(side), due[side].length, 0);
            Due.due("25 not LOCKED", x, x.locked(side), -1, 6);
            for (int k = 0; k < due[side].length; k++) {
                Due.due("25 level(" + side + ", " + k + ")", x, x.level(side, k), due[side][k], 0);
            }
        }
        Due.due("25 of which SONG", x, x.songHeard(0, 0), 1, 0);
        Due.due("25 of which SONG", x, x.songHeard(0, 8), 0, 0);
        Due.due("25 of which SONG", x, x.songHeard(1, 0), 2, 0);
        Due.due("25 once more", x, x.press(), 0);
        Due.due("25 once more", x, x.parts(0), 10, 0);
        Due.due("11 it takes more", x, x.lead(0, 1), 0);
    }

    /** No SONGS: nothing is on either SIDE then. */
    private static void pressOfNoSongs() {
        DiscCutter x = new DiscCutter();
        x.lead(0, 3);
        x.lead(1, 4);
        Due.due("25 no SONGS", x, x.press(), 0);
        Due.due("25 empty", x, x.parts(0), 0, 0);
        Due.due("25 empty", x, x.parts(1), 0, 0);
    }

    /** MOST 400, which is what a SIDE can have. */
    private static void pressOf400() {
        DiscCutter x = new DiscCutter();
        songs(x, 0, 60, 60, 60, 60, 60, 60, 40);
        Bench.flat(x, 0, 8, 9);
        x.most(400);
        Due.due("25 press()", x, x.press(), 0);
        Due.due("25 400 PARTS", x, x.parts(0), 400, 0);
        Due.due("25 8 PARTS", x, x.parts(1), 8, 0);
        Due.due("25 the last of 400", x, x.songHeard(0, 399), 6, 0);
        Due.due("25 full", x, x.lead(0, 1), 4);
    }

    /** "(5)", and what is laid stays. */
    private static void pressThatCannotBe() {
        DiscCutter x = new DiscCutter();
        Bench.flat(x, 0, 8, 9);
        x.lay(0, 0);
        x.lock(0, 0);
        x.lead(1, 3);
        x.most(7);
        Due.due("25 there is no ORDER", x, x.press(), 5);
        Due.due("25 SIDE 0 stays", x, x.parts(0), 8, 0);
        Due.due("25 SIDE 0 stays LOCKED", x, x.locked(0), 0, 0);
        Due.due("25 SIDE 1 stays", x, x.parts(1), 3, 0);
        x.most(8);
        Due.due("25 MOST just so", x, x.press(), 0);
        Due.due("25 SIDE 0", x, x.parts(0), 8, 0);
        Due.due("25 not LOCKED", x, x.locked(0), -1, 6);
        Due.due("25 SIDE 1 is empty", x, x.parts(1), 0, 0);
    }

    // ---- 26

    /** "(1: also a SONG of fewer than 8 PARTS; ..", "a SONG's first 8 PARTS". */
    private static void ringOfEight() {
        DiscCutter x = new DiscCutter();
        Bench.flat(x, 0, 7, 1);
        Bench.flat(x, 0, 8, 1);
        Bench.song(x, 0, 1, 1, 1, 1, 1, 1, 1, 1, 40);
        Bench.flat(x, 0, 1, 0);
        x.lead(0, 8);
        Due.due("26 of 7", x, x.ring(0, 0), -1, 1);
        Due.due("26 of 1", x, x.ring(0, 3), -1, 1);
        Due.due("26 of 8", x, x.ring(0, 1), 5, 0);
        Due.due("26 a ninth one isn't in it", x, x.ring(0, 2), 5, 0);
        int[] wrong = {DEEP, -1, 4, 10, FAR};
        for (int song : wrong) {
            Due.due("26 SONG " + song, x, x.ring(0, song), -1, 1);
        }
    }

    /** "6: the SIDE is empty". */
    private static void ringOfEmpty() {
        DiscCutter x = new DiscCutter();
        Bench.flat(x, 0, 8, 1);
        Bench.flat(x, 0, 7, 1);
        Due.due("26 empty", x, x.ring(0, 0), -1, 6);
        Due.due("26 1 ahead of 6", x, x.ring(0, 1), -1, 1);
        x.rules(20, 1);
        Due.due("26 an empty one CAN be cut", x, x.ring(0, 0), -1, 6);
        x.lead(0, 1);
        Due.due("26 one PART", x, x.ring(0, 0), 21, 0);
    }

    /** "behind the last PART of a SIDE that CAN be cut"; "1: ..; 5; 6". */
    private static void ringOfCannot() {
        DiscCutter x = new DiscCutter();
        Bench.flat(x, 0, 8, 40);
        Bench.flat(x, 0, 7, 1);
        x.rules(9, 1);
        x.lead(0, 8);
        Due.due("26 the RING itself may lie as far as it must", x, x.ring(0, 0), 49, 0);
        x.lead(0, 1);
        Due.due("26 it CAN'T be cut", x, x.ring(0, 0), -1, 5);
        Due.due("26 1 ahead of 5", x, x.ring(0, 1), -1, 1);
        Due.due("26 the other SIDE", x, x.ring(1, 0), -1, 6);
    }

    /** "each of its 8 PARTS is off the latest one ahead at the same eighth of a TURN": fewer than 8 there. */
    private static void ringBehindFew() {
        DiscCutter x = new DiscCutter();
        Bench.song(x, 0, 20, 21, 22, 23, 24, 25, 26, 27);
        Bench.song(x, 0, 27, 26, 25, 24, 23, 22, 21, 20);
        Bench.song(x, 0, 3);
        for (int many = 1; many <= 8; many++) {
            x.anew(0);
            for (int k = 0; k < many; k++) {
                x.lay(0, 2);
            }
            // only the RING's last so many PARTS have one ahead, all at 0
            Due.due("26 rising, behind " + many, x, x.ring(0, 0), 3 + 27 + 4, 0);
            Due.due("26 falling, behind " + many, x, x.ring(0, 1), 3 + 19 + many + 4, 0);
        }
    }

    /** "the least that is not less than that of the last PART .., and of which each .. by both LEVELS and LAND". */
    private static void ringBehindMany() {
        DiscCutter x = new DiscCutter();
        Bench.flat(x, 0, 8, 5);
        Bench.song(x, 0, 40, 0, 0, 0, 0, 0, 0, 0);
        Bench.song(x, 0, 0, 0, 0, 0, 0, 0, 0, 40);
        x.lay(0, 0);
        x.lead(0, 1);
        // PARTS 1 to 8 are the latest: 0, 0, .. and 9; PART 8 is silent
        Due.due("26 PART 8 lies at 9", x, x.place(0, 8), 9, 0);
        Due.due("26 by the RING's first: 0, 5, 40 and 4", x, x.ring(0, 1), 49, 0);
        Due.due("26 by the RING's last: 9, 0, 40 and 4", x, x.ring(0, 2), 53, 0);
        Bench.silent(x, 1, 400);
        Due.due("26 behind 400, the first: 49 times 4, 40 and 4", x, x.ring(1, 1), 240, 0);
        Due.due("26 behind 400, the last", x, x.ring(1, 2), 240, 0);
    }

    /** A RING that is only asked for isn't laid; and a LOCKED SIDE answers for any SONG. */
    private static void ringChangesNothing() {
        DiscCutter x = new DiscCutter();
        Bench.flat(x, 0, 8, 5);
        Bench.flat(x, 0, 8, 6);
        x.lay(0, 0);
        Due.due("26 SONG 0", x, x.ring(0, 0), 14, 0);
        Due.due("34 not LOCKED", x, x.locked(0), -1, 6);
        Due.due("13 no more PARTS", x, x.parts(0), 8, 0);
        x.lock(0, 0);
        Due.due("26 another SONG's", x, x.ring(0, 1), 15, 0);
        Due.due("34 by SONG 0", x, x.locked(0), 0, 0);
    }

    // ---- 27

    /** "It runs IN TIME for beats of b PARTS (1 to 8), if 8 is some times b." */
    private static void inTime1To8() {
        DiscCutter x = new DiscCutter();
        int[] due = {1, 1, 0, 1, 0, 0, 0, 1};
        for (int beat = 1; beat <= 8; beat++) {
            Due.due("27 " + beat, x, x.inTime(beat), due[beat - 1], 0);
        }
        int[] wrong = {DEEP, -8, -1, 0, 9, 16, FAR};
        for (int beat : wrong) {
            Due.due("27 " + beat, x, x.inTime(beat), -1, 1);
        }
    }
}
