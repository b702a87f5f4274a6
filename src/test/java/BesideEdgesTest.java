/** Promises 40 and 41: a test for each sentence that names an edge; what is quoted is the document's. */
public final class BesideEdgesTest {
    public static void main(String[] args) {
        partsOfEachSide();
        emptyBoth();
        oneAlone();
        partsThatSide0HasToo();
        partsThatSide1Has8Ahead();
        bothWays();
        justSo();
        oneThatCannotBe();
        pulledUpFromTheOther();
        liftedLate();
        againBehindOneThatCannotBe();
        longest();
        greatestOfBoth();
        ringsAreNotLaid();
        besideFollowsChanges();
        Due.end();
    }

    private static void row(String what, DiscCutter x, int side, int... due) {
        for (int k = 0; k < due.length; k++) {
            Due.due(what + ": placeBeside(" + side + ", " + k + ")", x, x.placeBeside(side, k), due[k], 0);
        }
    }

    private static void cannot(String what, DiscCutter x) {
        Due.due(what + ": placeBeside(0, 0)", x, x.placeBeside(0, 0), -1, 5);
        Due.due(what + ": roomBeside()", x, x.roomBeside(), -1, 5);
    }

    /** "The PLACE of a PART of a SIDE, BESIDE (1, 5)". */
    private static void partsOfEachSide() {
        DiscCutter x = new DiscCutter();
        Due.due("40 empty", x, x.placeBeside(0, 0), -1, 1);
        Due.due("40 empty", x, x.placeBeside(1, 0), -1, 1);
        x.lead(0, 9);
        x.lead(1, 3);
        int[][] wrong = {{Bench.DEEP, -1, 9, Bench.FAR}, {Bench.DEEP, -1, 3, Bench.FAR}};
        for (int side = 0; side < 2; side++) {
            for (int part : wrong[side]) {
                Due.due("40 PART " + part, x, x.placeBeside(side, part), -1, 1);
            }
        }
        Due.due("40 the last of SIDE 0", x, x.placeBeside(0, 8), 8, 0);
        Due.due("40 the last of SIDE 1", x, x.placeBeside(1, 2), 4, 0);
        x.rules(20, 1);
        Due.due("40 it CAN'T be", x, x.placeBeside(1, 2), -1, 5);
        Due.due("40 1 ahead of 5", x, x.placeBeside(1, 3), -1, 1);
    }

    /** "(0 if both are empty)". */
    private static void emptyBoth() {
        DiscCutter x = new DiscCutter();
        Due.due("41 both empty", x, x.roomBeside(), 0, 0);
        x.rules(20, 1);
        Due.due("41 both empty, whatever LAND and FEED are", x, x.roomBeside(), 0, 0);
        x.lead(1, 9);
        cannotRoom("41 SIDE 1 alone CAN'T be", x);
        x.anew(1);
        Due.due("41 both empty again", x, x.roomBeside(), 0, 0);
    }

    private static void cannotRoom(String what, DiscCutter x) {
        Due.due(what, x, x.roomBeside(), -1, 5);
    }

    /** "PLACES as in 2 for each": with the other one empty. */
    private static void oneAlone() {
        DiscCutter x = new DiscCutter();
        Bench.flat(x, 0, 9, 30);
        for (int side = 0; side < 2; side++) {
            x.anew(1 - side);
            x.lay(side, 0);
            row("40 SIDE " + side + " alone", x, side, 0, 8, 16, 24, 32, 40, 48, 56, 64);
            Due.due("41 SIDE " + side + " alone", x, x.roomBeside(), 94, 0);
        }
    }

    /** "of each PART of SIDE 1 that SIDE 0 has, too, the PLACE is that of SIDE 0's, both LEVELS and LAND, or more". */
    private static void partsThatSide0HasToo() {
        DiscCutter x = new DiscCutter();
        Bench.song(x, 0, 0, 40);
        Bench.song(x, 0, 3);
        x.lay(1, 0);
        x.lay(0, 1);
        row("40 SIDE 0 has no second PART", x, 1, 7, 7);
        Due.due("41 the last of SIDE 1", x, x.roomBeside(), 47, 0);
        x.lay(0, 1);
        row("40 SIDE 0 has one", x, 1, 39, 47);
        row("40 SIDE 0 lies first", x, 0, 0, 0);
        Due.due("41 the last of SIDE 1", x, x.roomBeside(), 87, 0);
        x.lay(0, 1);
        row("40 SIDE 0 has one more", x, 1, 39, 47);
    }

    /** "and of each PART of SIDE 0 that 8 ahead SIDE 1 has, that of SIDE 1's PART 8 ahead, .. or more". */
    private static void partsThatSide1Has8Ahead() {
        DiscCutter x = new DiscCutter();
        Bench.song(x, 0, 40);
        x.rules(4, 11);
        x.lead(0, 8);
        x.lay(1, 0);
        row("40 8 PARTS: none", x, 0, 0, 0, 0, 0, 0, 0, 0, 0);
        row("40 SIDE 1", x, 1, 44);
        x.lead(0, 1);
        row("40 9 PARTS: 44, 40 and 4, just 8 times 11", x, 0, 0, 11, 22, 33, 44, 55, 66, 77, 88);
        row("40 SIDE 1", x, 1, 44);
        x.lead(0, 1);
        Due.due("40 PART 9: SIDE 1 has no PART 1", x, x.placeBeside(0, 9), 88, 0);
        x.rules(4, 10);
        cannot("40 88 is above 80", x);
    }

    /** "BESIDE: both SIDES on one face": PART by PART, TURN by TURN. */
    private static void bothWays() {
        DiscCutter x = new DiscCutter();
        x.lead(0, 20);
        x.lead(1, 13);
        x.rules(3, 20);
        row("40 SIDE 0", x, 0, 0, 0, 0, 0, 0, 0, 0, 0, 6, 6, 6, 6, 6, 6, 6, 6, 12, 12, 12, 12);
        row("40 SIDE 1", x, 1, 3, 3, 3, 3, 3, 3, 3, 3, 9, 9, 9, 9, 9);
        Due.due("41 SIDE 0 ends later", x, x.roomBeside(), 12, 0);
    }

    /** "it CAN'T be, if there are none". */
    private static void justSo() {
        DiscCutter x = new DiscCutter();
        x.lead(0, 9);
        x.lead(1, 1);
        x.rules(4, 1);
        row("40 twice 4 is 8 times 1", x, 0, 0, 1, 2, 3, 4, 5, 6, 7, 8);
        row("40 twice 4 is 8 times 1", x, 1, 4);
        Due.due("41 twice 4 is 8 times 1", x, x.roomBeside(), 8, 0);
        x.rules(5, 1);
        cannot("40 twice 5 is above", x);
        Due.due("15 SIDE 0 alone CAN be", x, x.place(0, 8), 5, 0);
        x.anew(1);
        Due.due("40 with nothing beside it", x, x.placeBeside(0, 8), 5, 0);
        x.anew(0);
        x.lead(0, 1);
        x.lead(1, 9);
        Due.due("40 the other way round it CAN be", x, x.placeBeside(1, 8), 10, 0);
        x.lead(0, 7);
        Due.due("40 8 PARTS of SIDE 0", x, x.placeBeside(1, 8), 10, 0);
        x.lead(0, 1);
        cannot("40 9 PARTS of SIDE 0", x);
    }

    /** "PLACES as in 2 for each": what CAN'T be cut alone CAN'T be beside another. */
    private static void oneThatCannotBe() {
        for (int side = 0; side < 2; side++) {
            DiscCutter x = new DiscCutter();
            x.rules(9, 1);
            x.lead(side, 9);
            Due.due("41 SIDE " + side + " alone CAN'T be", x, x.roomBeside(), -1, 5);
            x.lead(1 - side, 1);
            cannot("40 SIDE " + side + " CAN'T be", x);
            Due.due("16 the other one CAN", x, x.room(1 - side), 0, 0);
        }
    }

    /** "LEAST PLACES likewise": a PART is pulled up by what is pulled up on the other SIDE. */
    private static void pulledUpFromTheOther() {
        DiscCutter x = new DiscCutter();
        Bench.song(x, 0, 40);
        x.rules(1, 10);
        x.lead(0, 10);
        x.lead(1, 4);
        x.lay(1, 0);
        // PART 4 of SIDE 1 lies at 41, so PART 0 at 1 and PART 1 at 11; PARTS 8 and 9 of SIDE 0 lie behind those
        row("40 SIDE 1", x, 1, 1, 11, 21, 31, 41);
        row("40 SIDE 0", x, 0, 0, 0, 0, 0, 0, 0, 0, 0, 2, 12);
        x.rules(2, 10);
        row("40 SIDE 1, LAND 2", x, 1, 2, 12, 22, 32, 42);
        row("40 SIDE 0, LAND 2", x, 0, 0, 0, 0, 0, 0, 0, 0, 0, 4, 14);
        x.rules(1, 9);
        row("40 SIDE 1, FEED 9", x, 1, 5, 14, 23, 32, 41);
        row("40 SIDE 0, FEED 9", x, 0, 0, 0, 0, 0, 0, 0, 0, 0, 6, 15);
    }

    /** "that of each next one not less": also behind a loud PART that a later one lifts. */
    private static void liftedLate() {
        DiscCutter x = new DiscCutter();
        Bench.song(x, 0, 0, 0, 0, 0, 0, 0, 10, 0);
        Bench.song(x, 0, 28);
        x.rules(1, 5);
        x.lead(0, 8);
        x.lay(1, 0);
        row("40 SIDE 1, 8 PARTS beside it", x, 1, 1, 1, 1, 1, 1, 6, 11, 11);
        x.lay(0, 1);
        row("40 SIDE 0", x, 0, 0, 0, 0, 5, 10, 15, 20, 25, 30);
        row("40 SIDE 1, the last one not less", x, 1, 1, 6, 11, 16, 21, 26, 31, 31);
        x.soften(1, 9);
        row("40 SIDE 1, a softer one", x, 1, 1, 5, 10, 15, 20, 25, 30, 30);
        x.anew(0);
        x.anew(1);
        Bench.song(x, 0, 29);
        x.lead(0, 8);
        x.lay(1, 0);
        x.lay(0, 2);
        cannot("40 a louder one", x);
    }

    /** "LEAST PLACES likewise": nothing is left of PLACES that could not be. */
    private static void againBehindOneThatCannotBe() {
        DiscCutter y = new DiscCutter();
        y.lay(0, Bench.song(y, 0, 0, 0, 0, 0, 0, 0, 18, 0, 0));
        y.lay(1, Bench.song(y, 0, 36, 33, 5, 0, 0));
        y.rules(3, 2);
        cannot("40 75 is above 16", y);
        y.rules(3, 20);
        row("40 SIDE 0, FEED 20", y, 0, 0, 0, 0, 0, 0, 18, 38, 58, 78);
        row("40 SIDE 1, FEED 20", y, 1, 39, 39, 39, 39, 39);
        Due.due("41 FEED 20", y, y.roomBeside(), 78, 0);
        DiscCutter x = new DiscCutter();
        Bench.flat(x, 0, 60, 40);
        Bench.song(x, 0, 3);
        for (int turn = 1; turn < 4; turn++) {
            for (int side = 0; side < 2; side++) {
                x.anew(0);
                x.anew(1);
                x.rules(4, 2);
                x.lay(side, 0);
                Bench.silent(x, 1 - side, 8 * turn + 1);
                Due.due("41 it CAN'T be", x, x.roomBeside(), -1, 5);
                x.rules(4, 8);
                x.anew(side);
                x.lay(side, 1);
                Due.due("41 SIDE " + side + " of one PART", x, x.roomBeside(), side == 0 ? 7 + 4 * turn : 10 + 4 * turn, 0);
            }
        }
    }

    /** The greatest of all: twice 400 PARTS, just so. */
    private static void longest() {
        DiscCutter x = new DiscCutter();
        Bench.flat(x, 0, 60, 30);
        Bench.flat(x, 0, 40, 30);
        for (int side = 0; side < 2; side++) {
            for (int k = 0; k < 6; k++) {
                x.lay(side, 0);
            }
            x.lay(side, 1);
        }
        x.rules(20, 20);
        for (int k = 0; k < 400; k += 57) {
            Due.due("40 SIDE 0", x, x.placeBeside(0, k), 20 * k, 0);
            Due.due("40 SIDE 1", x, x.placeBeside(1, k), 20 * k + 80, 0);
        }
        Due.due("40 the last of SIDE 0", x, x.placeBeside(0, 399), 7980, 0);
        Due.due("40 the last of SIDE 1", x, x.placeBeside(1, 399), 8060, 0);
        Due.due("41 the greatest", x, x.roomBeside(), 8090, 0);
        x.rules(20, 19);
        cannot("40 160 is above 152", x);
        x.rules(16, 19);
        Due.due("40 just 152", x, x.placeBeside(1, 399), 19 * 399 + 76, 0);
        x.rules(17, 19);
        cannot("40 154 is above 152", x);
    }

    /** "The greatest PLACE and LEVEL, together, of the last PARTS of both SIDES". */
    private static void greatestOfBoth() {
        DiscCutter x = new DiscCutter();
        Bench.song(x, 0, 20);
        x.lay(0, 0);
        Due.due("41 SIDE 0 alone", x, x.roomBeside(), 20, 0);
        x.lead(1, 1);
        Due.due("41 SIDE 1's last at 24, and 0", x, x.roomBeside(), 24, 0);
        x.anew(1);
        x.lay(1, 0);
        Due.due("41 SIDE 1's last at 44, and 20", x, x.roomBeside(), 64, 0);
        x.rules(4, 20);
        x.lead(0, 8);
        Due.due("41 SIDE 0's last at 68, and 0", x, x.roomBeside(), 68, 0);
        x.lead(1, 1);
        Due.due("41 only the last ones count", x, x.roomBeside(), 68, 0);
        DiscCutter y = new DiscCutter();
        y.lead(0, 1);
        Bench.song(y, 0, 40);
        y.lay(1, 0);
        y.lay(0, 0);
        Due.due("41 SIDE 1's last at 44, and 40; SIDE 0's at 0, and 40", y, y.roomBeside(), 84, 0);
        y.lead(1, 1);
        Due.due("41 SIDE 1's last at 44, silent; SIDE 0's at 0, and 40", y, y.roomBeside(), 44, 0);
    }

    /** "(RINGS are not laid.)" */
    private static void ringsAreNotLaid() {
        DiscCutter x = new DiscCutter();
        Bench.flat(x, 0, 8, 5);
        x.lay(0, 0);
        x.lay(1, 0);
        Due.due("41 not LOCKED", x, x.roomBeside(), 19, 0);
        x.lock(0, 0);
        x.lock(1, 0);
        Due.due("41 LOCKED", x, x.roomBeside(), 19, 0);
        row("40 LOCKED", x, 1, 14, 14, 14, 14, 14, 14, 14, 14);
        Due.due("40 no PART of a RING", x, x.placeBeside(0, 8), -1, 1);
    }

    /** PLACES are always by both SIDES, LAND and FEED of now. */
    private static void besideFollowsChanges() {
        DiscCutter x = new DiscCutter();
        Bench.song(x, 0, 10);
        x.lay(0, 0);
        x.lay(1, 0);
        row("40 at first", x, 1, 24);
        x.soften(0, 4);
        row("40 SIDE 0 is softer", x, 1, 18);
        x.soften(1, 3);
        row("40 SIDE 1 is softer", x, 1, 11);
        x.rules(9, 8);
        row("40 more LAND", x, 1, 16);
        x.soften(0, 2);
        x.rules(8, 8);
        row("40 SIDE 0 is softer, and less LAND", x, 1, 13);
        x.soften(1, 1);
        x.rules(7, 8);
        row("40 SIDE 1 is softer, and less LAND", x, 1, 10);
        x.soften(0, 0);
        x.soften(1, 0);
        row("40 both are softer", x, 1, 7);
        x.anew(0);
        row("40 SIDE 0 is empty", x, 1, 0);
        x.press();
        row("40 pressed", x, 0, 0);
        Due.due("40 pressed", x, x.placeBeside(1, 0), -1, 1);
    }
}
