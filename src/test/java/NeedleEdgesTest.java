/** Promises 33 to 39: a test for each sentence that names an edge; what is quoted is the document's. */
public final class NeedleEdgesTest {
    private static final int FAR = Bench.FAR;
    private static final int DEEP = Bench.DEEP;

    public static void main(String[] args) {
        lockBySongsOfEight();
        lockOfEmpty();
        lockTwice();
        lockOfOneAndOf400();
        lockOfCannot();
        lockedBy();
        ticksOf0To10000();
        pushesOf400();
        knocksAtMost16();
        knockAtThatTick();
        still();
        heardAt0To20000();
        heardOfCannot();
        theEnd();
        roundAndRound();
        ringAfterAPartOfATurn();
        knockIntoItself();
        nearest();
        ofTwoTheLesser();
        knockAtTheFirstTick();
        knockAtTheLastTick();
        knockAtTheLastPart();
        knockBehindEnd();
        knockIntoTheLastPart();
        knockIntoTheRing();
        knockOutOfTheRing();
        knocksOneBehindTheOther();
        knocksByTheirTicks();
        knocksForBothSides();
        ringByTheLevelsOfNow();
        songHeardOfEach();
        missedOfEmpty();
        missedOfAll();
        missedNotOfTheRing();
        missedAtNoTick();
        missedOfCannot();
        Due.end();
    }

    /** SIDE 0 of so many silent PARTS; those at one eighth lie 10 apart, TURN by TURN. */
    private static DiscCutter withSilent(int parts) {
        DiscCutter x = new DiscCutter();
        Bench.flat(x, 0, 8, 0);
        x.rules(10, 20);
        Bench.silent(x, 0, parts);
        return x;
    }

    private static void heard(String what, DiscCutter x, int tick, int part) {
        Due.due(what + ", heard(0, " + tick + ")", x, x.heard(0, tick), part, 0);
    }

    private static void atEnd(String what, DiscCutter x, int tick) {
        Due.due(what + ", END at " + tick, x, x.heard(0, tick), -1, 6);
    }

    // ---- 33, 34

    /** "(1: also a SONG of fewer than 8 PARTS; ..". */
    private static void lockBySongsOfEight() {
        DiscCutter x = new DiscCutter();
        Bench.flat(x, 0, 7, 1);
        Bench.flat(x, 0, 8, 1);
        x.lead(0, 1);
        Due.due("33 of 7", x, x.lock(0, 0), 1);
        int[] wrong = {DEEP, -1, 2, 10, FAR};
        for (int song : wrong) {
            Due.due("33 SONG " + song, x, x.lock(0, song), 1);
        }
        Due.due("34 not LOCKED", x, x.locked(0), -1, 6);
        Due.due("33 of 8", x, x.lock(0, 1), 0);
        Due.due("34 by SONG 1", x, x.locked(0), 1, 0);
    }

    /** "6: the SIDE is empty". */
    private static void lockOfEmpty() {
        DiscCutter x = new DiscCutter();
        Bench.flat(x, 0, 8, 1);
        Bench.flat(x, 0, 7, 1);
        Due.due("33 empty", x, x.lock(0, 0), 6);
        Due.due("33 1 ahead of 6", x, x.lock(0, 1), 1);
        Due.due("34 not LOCKED", x, x.locked(0), -1, 6);
        x.lead(1, 1);
        Due.due("33 the other one is empty still", x, x.lock(0, 0), 6);
    }

    /** "7". */
    private static void lockTwice() {
        DiscCutter x = new DiscCutter();
        Bench.flat(x, 0, 8, 1);
        Bench.flat(x, 0, 8, 2);
        Bench.flat(x, 0, 7, 3);
        x.lead(0, 1);
        x.lead(1, 1);
        x.lock(0, 0);
        Due.due("33 the same SONG", x, x.lock(0, 0), 7);
        Due.due("33 another one", x, x.lock(0, 1), 7);
        Due.due("33 1 ahead of 7", x, x.lock(0, 2), 1);
        Due.due("34 as it was", x, x.locked(0), 0, 0);
        Due.due("34 the other SIDE isn't", x, x.locked(1), -1, 6);
        Due.due("33 the other SIDE", x, x.lock(1, 1), 0);
        Due.due("34 the other SIDE", x, x.locked(1), 1, 0);
        x.anew(0);
        Due.due("33 empty, not LOCKED any more", x, x.lock(0, 0), 6);
    }

    /** "its RING lies behind the last PART then, of 8 PARTS, numbered on from the last PART". */
    private static void lockOfOneAndOf400() {
        DiscCutter x = withSilent(1);
        Due.due("33 one PART", x, x.lock(0, 0), 0);
        heard("33 the RING's first", x, 1, 1);
        heard("33 the RING's last", x, 8, 8);
        heard("33 round", x, 9, 1);
        DiscCutter y = withSilent(400);
        Due.due("33 400 PARTS: the RING is none of the 400", y, y.lock(0, 0), 0);
        heard("33 the RING's first", y, 400, 400);
        heard("33 the RING's last", y, 407, 407);
        heard("33 round", y, 408, 400);
        Due.due("13 400 still", y, y.parts(0), 400, 0);
    }

    /** "(1: ..; 6: ..; 7)": a SIDE that CAN'T be cut may be LOCKED. */
    private static void lockOfCannot() {
        DiscCutter x = withSilent(9);
        x.rules(9, 1);
        Due.due("33 it CAN'T be cut", x, x.lock(0, 0), 0);
        Due.due("34 LOCKED", x, x.locked(0), 0, 0);
        Due.due("37 it CAN'T be played", x, x.heard(0, 9), -1, 5);
    }

    /** "The SONG by which a SIDE is LOCKED (1, 6)". */
    private static void lockedBy() {
        DiscCutter x = new DiscCutter();
        Due.due("34 empty", x, x.locked(0), -1, 6);
        for (int k = 0; k < 10; k++) {
            Bench.flat(x, 0, 8, k);
        }
        x.lead(0, 1);
        Due.due("34 not LOCKED", x, x.locked(0), -1, 6);
        x.lock(0, 9);
        Due.due("34 by the last one", x, x.locked(0), 9, 0);
        x.lead(1, 1);
        x.lock(1, 0);
        Due.due("34 by the first one", x, x.locked(1), 0, 0);
    }

    // ---- 35, 36

    /** "each at a tick (0 to 10,000)". */
    private static void ticksOf0To10000() {
        DiscCutter x = new DiscCutter();
        int[] wrong = {DEEP, -1, 10001, FAR};
        for (int tick : wrong) {
            Due.due("35 tick " + tick, x, x.knock(tick, 0), 1);
        }
        Due.due("35 tick 0", x, x.knock(0, 0), 0);
        Due.due("35 tick 10,000", x, x.knock(10000, 0), 0);
        Due.due("35 there", x, x.knock(0, 1), 7);
        Due.due("35 there", x, x.knock(10000, 1), 7);
    }

    /** "a push from -400 to 400". */
    private static void pushesOf400() {
        DiscCutter x = new DiscCutter();
        int[] wrong = {DEEP, -401, 401, FAR};
        for (int push : wrong) {
            Due.due("35 push " + push, x, x.knock(5, push), 1);
        }
        Due.due("35 push 400", x, x.knock(5, 400), 0);
        Due.due("35 push -400", x, x.knock(6, -400), 0);
        Due.due("35 push 0", x, x.knock(7, 0), 0);
    }

    /** "KNOCKS, at most 16"; "(1; 4; 7: ..". */
    private static void knocksAtMost16() {
        DiscCutter x = withSilent(400);
        for (int k = 0; k < 16; k++) {
            Due.due("35 KNOCK " + k, x, x.knock(100 + k, 0), 0);
        }
        Due.due("35 a 17th", x, x.knock(0, 400), 4);
        Due.due("35 one too many ahead of one at that tick", x, x.knock(100, 400), 4);
        Due.due("35 a wrong number ahead of one too many", x, x.knock(0, 401), 1);
        heard("35 the refused ones do nothing", x, 1, 1);
        heard("35 the refused ones do nothing", x, 101, 101);
    }

    /** "7: one at that tick". */
    private static void knockAtThatTick() {
        DiscCutter x = withSilent(40);
        x.knock(8, 10);
        Due.due("35 the same", x, x.knock(8, 10), 7);
        Due.due("35 another push", x, x.knock(8, -10), 7);
        heard("35 the first one stays", x, 9, 17);
    }

    /** "All KNOCKS are gone." */
    private static void still() {
        DiscCutter x = withSilent(40);
        Due.due("36 of none", x, x.still(), 0);
        for (int k = 0; k < 16; k++) {
            x.knock(k, 400);
        }
        Due.due("36 of 16", x, x.still(), 0);
        heard("36 gone", x, 39, 39);
        Due.due("39 gone", x, x.missed(0), 0, 0);
        Due.due("35 room again", x, x.knock(0, 400), 0);
    }

    // ---- 37

    /** "at a tick (0 to 20,000) (1; ..". */
    private static void heardAt0To20000() {
        DiscCutter x = withSilent(8);
        x.lock(0, 0);
        int[] wrong = {DEEP, -1, 20001, FAR};
        for (int tick : wrong) {
            Due.due("37 tick " + tick, x, x.heard(0, tick), -1, 1);
            Due.due("38 tick " + tick, x, x.songHeard(0, tick), -1, 1);
        }
        heard("37 the first", x, 0, 0);
        heard("37 the last", x, 20000, 8);
        heard("37 ahead of the last", x, 19999, 15);
        Due.due("38 the first", x, x.songHeard(0, 0), -1, 0);
        Due.due("38 the last", x, x.songHeard(0, 20000), 0, 0);
    }

    /** "The NEEDLE plays a SIDE that CAN be cut"; "(1; 5; 6: END)". */
    private static void heardOfCannot() {
        DiscCutter x = withSilent(9);
        x.rules(9, 1);
        Due.due("37 it CAN'T be", x, x.heard(0, 0), -1, 5);
        Due.due("37 5 ahead of END", x, x.heard(0, 9), -1, 5);
        Due.due("37 1 ahead of 5", x, x.heard(0, 20001), -1, 1);
        Due.due("38 it CAN'T be", x, x.songHeard(0, 0), -1, 5);
        x.rules(8, 1);
        heard("37 it CAN be, just so", x, 8, 8);
        Due.due("37 the other SIDE is empty", x, x.heard(1, 0), -1, 6);
    }

    /** "or, if it isn't LOCKED, there is nothing more (END)". */
    private static void theEnd() {
        DiscCutter x = withSilent(0);
        atEnd("37 an empty one", x, 0);
        atEnd("37 an empty one", x, 20000);
        x.lead(0, 1);
        heard("37 one PART", x, 0, 0);
        atEnd("37 one PART", x, 1);
        Bench.silent(x, 0, 400);
        heard("37 400 PARTS", x, 399, 399);
        atEnd("37 400 PARTS", x, 400);
        atEnd("37 400 PARTS", x, 20000);
        Due.due("38 END", x, x.songHeard(0, 400), -1, 6);
    }

    /** "behind the last one in the RING, round and round". */
    private static void roundAndRound() {
        DiscCutter x = withSilent(16);
        x.lock(0, 0);
        for (int tick = 14; tick < 42; tick++) {
            heard("37 round", x, tick, tick < 16 ? tick : 16 + tick % 8);
        }
    }

    /** "some whole TURNS from p": the RING begins within a TURN. */
    private static void ringAfterAPartOfATurn() {
        DiscCutter x = withSilent(12);
        x.lock(0, 0);
        heard("37 the RING's first", x, 12, 12);
        heard("37 the RING's last", x, 19, 19);
        heard("37 round", x, 20, 12);
        x.knock(0, 400);
        heard("37 PART 16 of the RING is at PART 0's eighth", x, 1, 17);
        x.still();
        x.knock(4, 400);
        heard("37 PART 12 of the RING is at PART 4's eighth", x, 5, 13);
        x.still();
        // PART 12 lies at 20, PART 4 at 0: 10 is as near to both
        x.knock(4, 10);
        heard("37 half way", x, 5, 5);
        x.still();
        x.knock(4, 11);
        heard("37 more than half way", x, 5, 13);
    }

    /** "(p itself, too)". */
    private static void knockIntoItself() {
        DiscCutter x = withSilent(40);
        x.knock(10, 0);
        heard("37 a push of 0", x, 10, 10);
        heard("37 a push of 0", x, 11, 11);
        x.still();
        x.knock(1, -400);
        heard("37 nothing lies further out", x, 2, 2);
        x.still();
        x.knock(38, 400);
        heard("37 nothing lies further in", x, 39, 39);
        x.still();
        x.knock(0, -400);
        heard("37 nothing lies further out than PART 0", x, 1, 1);
        x.still();
        x.knock(32, 400);
        heard("37 nothing lies further in than the last TURN", x, 33, 33);
        x.still();
        x.knock(16, -400);
        heard("37 from the first eighth", x, 17, 1);
        x.still();
        x.knock(16, 4);
        x.knock(17, -4);
        heard("37 too soft a push", x, 17, 17);
        heard("37 too soft a push", x, 18, 18);
        Due.due("39 none is missed", x, x.missed(0), 0, 0);
    }

    /** "of which the PLACE is nearest to that of p and the push". */
    private static void nearest() {
        DiscCutter x = withSilent(400);
        int[] pushes = {6, 14, 16, 100, 394, 400, -6, -14, -16, -100, -194, -400};
        int[] turns = {1, 1, 2, 10, 39, 40, -1, -1, -2, -10, -19, -20};
        for (int k = 0; k < pushes.length; k++) {
            x.still();
            // PART 163 is the 4th of TURN 20, which lies at 200; TURN 49 is the last one
            x.knock(163, pushes[k]);
            int turn = Math.min(49, 20 + turns[k]);
            heard("37 a push of " + pushes[k], x, 164, 8 * turn + 4);
        }
    }

    /** "of two as near the lesser one". */
    private static void ofTwoTheLesser() {
        DiscCutter x = withSilent(40);
        int[] pushes = {5, 15, -5, -15};
        int[] turns = {0, 1, -1, -2};
        for (int k = 0; k < pushes.length; k++) {
            x.still();
            x.knock(16, pushes[k]);
            heard("37 half way by " + pushes[k], x, 17, 16 + 8 * turns[k] + 1);
        }
        x.still();
        x.knock(8, -5);
        heard("37 half way to the first", x, 9, 1);
        x.still();
        x.knock(24, 5);
        heard("37 half way to the last", x, 25, 25);
    }

    /** "at tick 0 it is in PART 0"; "(at the KNOCK's own tick it is in p)". */
    private static void knockAtTheFirstTick() {
        DiscCutter x = withSilent(400);
        x.knock(0, 400);
        heard("37 at its own tick", x, 0, 0);
        heard("37 at the next tick", x, 1, 321);
        heard("37 the last PART", x, 79, 399);
        atEnd("37 sooner", x, 80);
    }

    /** "each at a tick (0 to 10,000)": the last one is heard of. */
    private static void knockAtTheLastTick() {
        DiscCutter x = withSilent(16);
        x.lock(0, 0);
        x.knock(10000, -400);
        heard("37 ahead of it", x, 9999, 23);
        heard("37 at its own tick", x, 10000, 16);
        heard("37 out of the RING", x, 10001, 1);
        heard("37 the last PART", x, 10015, 15);
        heard("37 in the RING again", x, 10016, 16);
        heard("37 and for ever", x, 20000, 16);
    }

    /** "A KNOCK at a tick pushes it": in the last PART it is pushed yet. */
    private static void knockAtTheLastPart() {
        DiscCutter x = withSilent(24);
        x.knock(23, -10);
        heard("37 at its own tick", x, 23, 23);
        heard("37 from the last PART back", x, 24, 16);
        heard("37 the last PART once more", x, 31, 23);
        atEnd("37 then", x, 32);
    }

    /** "(Behind END a KNOCK does nothing.)" */
    private static void knockBehindEnd() {
        DiscCutter x = withSilent(24);
        x.knock(24, -400);
        atEnd("37 at END", x, 24);
        atEnd("37 behind it", x, 25);
        x.knock(10000, -400);
        atEnd("37 long behind it", x, 10001);
        Due.due("39 all was heard", x, x.missed(0), 0, 0);
        x.lead(0, 1);
        heard("37 a PART more: not END yet", x, 24, 24);
        heard("37 a PART more: the KNOCK pushes", x, 25, 1);
    }

    /** "At the next tick it is in the one behind that": there may be none. */
    private static void knockIntoTheLastPart() {
        DiscCutter x = withSilent(24);
        x.knock(7, 400);
        heard("37 at its own tick", x, 7, 7);
        atEnd("37 behind the last PART", x, 8);
        x.lock(0, 0);
        heard("37 behind the RING's last PART its first", x, 8, 24);
        x.still();
        x.knock(7, 20);
        heard("37 the SIDE's last PART, LOCKED", x, 8, 24);
    }

    /** "of all of the SIDE and its RING": into it. */
    private static void knockIntoTheRing() {
        DiscCutter x = withSilent(24);
        x.knock(2, 30);
        heard("37 not LOCKED: TURN 2 is the nearest", x, 3, 19);
        x.lock(0, 0);
        heard("37 LOCKED: the RING at 30", x, 3, 27);
        heard("37 round", x, 8, 24);
        heard("37 round", x, 20000, 24);
        x.still();
        x.knock(2, 25);
        heard("37 as near to TURN 2", x, 3, 19);
    }

    /** "of all of the SIDE and its RING": within it, and out of it. */
    private static void knockOutOfTheRing() {
        DiscCutter x = withSilent(24);
        x.lock(0, 0);
        x.knock(50, 400);
        heard("37 in the RING", x, 50, 26);
        heard("37 it stays in the RING", x, 51, 27);
        x.knock(60, -4);
        heard("37 it stays in the RING", x, 61, 29);
        x.knock(70, -5);
        heard("37 half way: the lesser one", x, 71, 23);
        heard("37 in the RING again", x, 72, 24);
        x.knock(80, -400);
        heard("37 to the first TURN", x, 81, 1);
    }

    /** "At the next tick it is in the one behind that": where it can be knocked again. */
    private static void knocksOneBehindTheOther() {
        DiscCutter x = withSilent(400);
        for (int k = 0; k < 16; k++) {
            x.knock(k, 10);
        }
        for (int k = 0; k <= 16; k++) {
            heard("37 a TURN more at each tick", x, k, 9 * k);
        }
        heard("37 and on", x, 17, 145);
    }

    /** "each at a tick": in whatever order they came. */
    private static void knocksByTheirTicks() {
        DiscCutter x = withSilent(400);
        x.knock(30, -10);
        x.knock(10, 100);
        x.knock(20, 50);
        heard("37 behind the first", x, 11, 91);
        heard("37 behind the second", x, 21, 141);
        heard("37 behind the third", x, 31, 143);
    }

    /** "are the same for both SIDES". */
    private static void knocksForBothSides() {
        DiscCutter x = withSilent(24);
        Bench.silent(x, 1, 16);
        x.knock(0, 20);
        heard("37 SIDE 0", x, 1, 17);
        Due.due("37 SIDE 1", x, x.heard(1, 1), 9, 0);
        Due.due("39 SIDE 0", x, x.missed(0), 16, 0);
        Due.due("39 SIDE 1", x, x.missed(1), 8, 0);
        x.still();
        Due.due("37 SIDE 1", x, x.heard(1, 1), 1, 0);
    }

    /** "all at the RING's PLACE, with the LEVELS of the SONG's first 8 PARTS". */
    private static void ringByTheLevelsOfNow() {
        DiscCutter x = new DiscCutter();
        Bench.flat(x, 0, 9, 20);
        x.rules(4, 20);
        x.lead(0, 8);
        x.lock(0, 0);
        // the RING lies at 24
        x.knock(0, 12);
        heard("37 half way", x, 1, 1);
        x.still();
        x.knock(0, 13);
        heard("37 more than half way", x, 1, 9);
        x.rules(6, 20);
        heard("37 the RING at 26, by LAND of now", x, 1, 1);
    }

    // ---- 38

    /** "The SONG of that PART (also of the RING); NONE with STATUS 0 for a LEAD one (1, 5, 6)". */
    private static void songHeardOfEach() {
        DiscCutter x = new DiscCutter();
        Bench.flat(x, 0, 8, 0);
        Bench.flat(x, 0, 1, 0);
        x.lead(0, 1);
        x.lay(0, 1);
        x.lead(0, 1);
        x.lock(0, 0);
        int[] due = {-1, 1, -1, 0, 0, 0, 0, 0, 0, 0, 0, 0};
        for (int tick = 0; tick < due.length; tick++) {
            Due.due("38 tick " + tick, x, x.songHeard(0, tick), due[tick], 0);
        }
        x.anew(0);
        Due.due("38 END at once", x, x.songHeard(0, 0), -1, 6);
    }

    // ---- 39

    /** "How many PARTS of a SIDE": of none. */
    private static void missedOfEmpty() {
        DiscCutter x = withSilent(0);
        Due.due("39 an empty one", x, x.missed(0), 0, 0);
        x.knock(0, 400);
        Due.due("39 an empty one, knocked", x, x.missed(0), 0, 0);
        x.lead(0, 1);
        Due.due("39 one PART", x, x.missed(0), 0, 0);
    }

    /** "the NEEDLE is in at no tick": all but the first, or none of 400. */
    private static void missedOfAll() {
        DiscCutter x = withSilent(400);
        Due.due("39 none of 400", x, x.missed(0), 0, 0);
        x.knock(0, 400);
        Due.due("39 it is in 0 and in 321 to 399", x, x.missed(0), 400 - 80, 0);
        x.knock(1, 400);
        Due.due("39 it falls into PART 393, and is in 394 to 399", x, x.missed(0), 400 - 8, 0);
    }

    /** "(not of its RING)". */
    private static void missedNotOfTheRing() {
        DiscCutter x = withSilent(24);
        x.knock(0, 400);
        Due.due("39 not LOCKED: in 0 and 17 to 23", x, x.missed(0), 16, 0);
        x.lock(0, 0);
        Due.due("39 LOCKED: in 0 alone", x, x.missed(0), 23, 0);
        x.still();
        Due.due("39 LOCKED, all are heard", x, x.missed(0), 0, 0);
        x.anew(0);
        x.lead(0, 8);
        x.knock(7, -400);
        Due.due("39 8 PARTS", x, x.missed(0), 0, 0);
    }

    /** "at no tick": however late. */
    private static void missedAtNoTick() {
        DiscCutter x = withSilent(24);
        x.lock(0, 0);
        x.knock(0, 400);
        x.knock(10000, -400);
        Due.due("39 it is in 1 to 23 at last", x, x.missed(0), 0, 0);
        x.still();
        x.knock(0, 400);
        x.knock(9999, -20);
        // in PART 31 then, at 30: it falls into PART 15, and is in 16 to 23
        Due.due("39 it is in 16 to 23 at last", x, x.missed(0), 15, 0);
        x.still();
        x.knock(10, -400);
        Due.due("39 some twice", x, x.missed(0), 0, 0);
        DiscCutter y = withSilent(400);
        y.lock(0, 0);
        y.knock(0, 400);
        y.knock(1, 400);
        y.knock(10000, -400);
        y.knock(9999, -400);
        y.knock(9998, -400);
        Due.due("39 400, as late as can be", y, y.missed(0), 0, 0);
    }

    /** "(1, 5)". */
    private static void missedOfCannot() {
        DiscCutter x = withSilent(9);
        x.rules(9, 1);
        Due.due("39 it CAN'T be", x, x.missed(0), -1, 5);
        Due.due("39 the other SIDE", x, x.missed(1), 0, 0);
    }
}
