/** Promises 28 to 32: a test for each sentence that names an edge; what is quoted is the document's. */
public final class ClickEdgesTest {
    private static final int FAR = Bench.FAR;
    private static final int DEEP = Bench.DEEP;

    public static void main(String[] args) {
        turnsOf0To99();
        partsOf0To7();
        atMost16();
        thereAlready();
        clean();
        longestOfNone();
        longestOfOne();
        turnsOneBehindTheOther();
        roundBy8();
        turnsDoNotGoRound();
        longestOf16();
        firstByTurn();
        firstByPart();
        firstBySlant();
        lineWhat();
        coverOfNone();
        coverOfOneClick();
        coverOfOneLine();
        coverTogether();
        coverNotByTheLongest();
        coverOf16();
        Due.end();
    }

    private static DiscCutter with(int[]... clicks) {
        DiscCutter x = new DiscCutter();
        for (int[] c : clicks) {
            x.click(c[0], c[1]);
        }
        return x;
    }

    private static int[] at(int turn, int part) {
        return new int[] {turn, part};
    }

    private static void longest(String what, DiscCutter x, int clicks, int turn, int part, int slant) {
        Due.due(what + ", longest()", x, x.longest(), clicks, 0);
        Due.due(what + ", line(0)", x, x.line(0), turn, 0);
        Due.due(what + ", line(1)", x, x.line(1), part, 0);
        Due.due(what + ", line(2)", x, x.line(2), slant, 0);
    }

    // ---- 28, 29

    /** "each at a TURN (0 to 99)". */
    private static void turnsOf0To99() {
        DiscCutter x = new DiscCutter();
        int[] wrong = {DEEP, -1, 100, FAR};
        for (int turn : wrong) {
            Due.due("28 TURN " + turn, x, x.click(turn, 0), 1);
            Due.due("28 none came", x, x.cover(), 0, 0);
        }
        Due.due("28 TURN 99", x, x.click(99, 0), 0);
        longest("31 TURN 99", x, 1, 99, 0, -1);
        Due.due("28 TURN 0", x, x.click(0, 0), 0);
        longest("31 TURN 0", x, 1, 0, 0, -1);
    }

    /** "and a PART (0 to 7)". */
    private static void partsOf0To7() {
        DiscCutter x = new DiscCutter();
        int[] wrong = {DEEP, -1, 8, FAR};
        for (int part : wrong) {
            Due.due("28 PART " + part, x, x.click(0, part), 1);
            Due.due("28 none came", x, x.cover(), 0, 0);
        }
        Due.due("28 PART 7", x, x.click(0, 7), 0);
        longest("31 PART 7", x, 1, 0, 7, -1);
        Due.due("28 PART 0", x, x.click(0, 0), 0);
        longest("31 PART 0", x, 1, 0, 0, -1);
    }

    /** "CLICKS, at most 16"; "(1, 4, 7)". */
    private static void atMost16() {
        DiscCutter x = new DiscCutter();
        for (int k = 0; k < 16; k++) {
            Due.due("28 CLICK " + k, x, x.click(2 * k, 0), 0);
        }
        Due.due("28 a 17th", x, x.click(40, 0), 4);
        Due.due("28 one too many ahead of there already", x, x.click(0, 0), 4);
        Due.due("28 a wrong number ahead of one too many", x, x.click(100, 0), 1);
        Due.due("28 16 it is", x, x.cover(), 16, 0);
        x.clean();
        Due.due("28 room again", x, x.click(40, 0), 0);
        Due.due("28 one it is", x, x.cover(), 1, 0);
    }

    /** "7 it is there (so) already." */
    private static void thereAlready() {
        DiscCutter x = with(at(5, 3));
        Due.due("28 the same", x, x.click(5, 3), 7);
        Due.due("28 one it is", x, x.cover(), 1, 0);
        Due.due("28 another PART", x, x.click(5, 2), 0);
        Due.due("28 another TURN", x, x.click(4, 3), 0);
        Due.due("28 TURN and PART changed", x, x.click(3, 5), 0);
        Due.due("28 the first still", x, x.click(5, 3), 7);
        Due.due("28 the last one, too", x, x.click(3, 5), 7);
    }

    /** "All CLICKS are gone." */
    private static void clean() {
        DiscCutter x = new DiscCutter();
        Due.due("29 of none", x, x.clean(), 0);
        x.click(5, 3);
        x.click(6, 3);
        Due.due("29 of two", x, x.clean(), 0);
        Due.due("29 gone", x, x.cover(), 0, 0);
        Due.due("29 gone", x, x.longest(), -1, 6);
        Due.due("29 one of them comes again", x, x.click(6, 3), 0);
        longest("29 one alone", x, 1, 6, 3, -1);
    }

    // ---- 30, 31

    /** "(6: there are none)". */
    private static void longestOfNone() {
        DiscCutter x = new DiscCutter();
        Due.due("30 none", x, x.longest(), -1, 6);
        for (int what = 0; what < 3; what++) {
            Due.due("31 none", x, x.line(what), -1, 6);
        }
        Due.due("31 1 ahead of 6", x, x.line(3), -1, 1);
        Due.due("31 1 ahead of 6", x, x.line(-1), -1, 1);
    }

    /** "by its first TURN, its first PART, SLANT": of one CLICK it is -1; "STATUS tells NONE from -1." */
    private static void longestOfOne() {
        longest("31 one CLICK", with(at(50, 4)), 1, 50, 4, -1);
    }

    /** "A LINE: CLICKS at TURNS one behind the other". */
    private static void turnsOneBehindTheOther() {
        longest("30 a TURN is left out", with(at(1, 1), at(3, 1), at(4, 1)), 2, 3, 1, 0);
        longest("30 on one TURN", with(at(1, 1), at(1, 2), at(1, 3)), 1, 1, 1, -1);
        longest("30 whichever comes first", with(at(3, 1), at(1, 1), at(2, 1)), 3, 1, 1, 0);
        longest("30 two PARTS on", with(at(1, 1), at(2, 3)), 1, 1, 1, -1);
        longest("30 no other SLANT within", with(at(1, 1), at(2, 2), at(3, 2)), 2, 1, 1, 1);
    }

    /** "each PART that ahead and SLANT (-1, 0, 1), round by 8". */
    private static void roundBy8() {
        longest("31 from 7 on to 0", with(at(1, 7), at(2, 0)), 2, 1, 7, 1);
        longest("31 from 0 back to 7", with(at(1, 0), at(2, 7)), 2, 1, 0, -1);
        DiscCutter up = new DiscCutter();
        DiscCutter down = new DiscCutter();
        for (int k = 0; k < 10; k++) {
            up.click(20 + k, k % 8);
            down.click(20 + k, (18 - k) % 8);
        }
        longest("31 all the way round", up, 10, 20, 0, 1);
        longest("31 all the way back", down, 10, 20, 2, -1);
    }

    /** "a TURN (0 to 99)": TURNS themselves do not go round. */
    private static void turnsDoNotGoRound() {
        longest("30 TURN 99 and TURN 0", with(at(99, 4), at(0, 4)), 1, 0, 4, -1);
        longest("30 TURNS 98 and 99", with(at(99, 4), at(98, 4), at(0, 4)), 2, 98, 4, 0);
    }

    /** "LONGEST is the LINE of the most CLICKS": all 16. */
    private static void longestOf16() {
        for (int slant = -1; slant <= 1; slant++) {
            DiscCutter x = new DiscCutter();
            for (int k = 15; k >= 0; k--) {
                x.click(84 + k, Math.floorMod(k * slant, 8));
            }
            longest("30 16 at SLANT " + slant, x, 16, 84, 0, slant);
            Due.due("32 one LINE", x, x.cover(), 1, 0);
        }
    }

    /** "of several the first: by its first TURN". */
    private static void firstByTurn() {
        longest("31 the lesser TURN", with(at(8, 0), at(9, 0), at(7, 5), at(8, 6)), 2, 7, 5, 1);
        longest("31 the lesser TURN", with(at(7, 5), at(8, 6), at(8, 0), at(9, 0)), 2, 7, 5, 1);
    }

    /** "its first PART". */
    private static void firstByPart() {
        longest("31 the lesser PART", with(at(7, 5), at(8, 4), at(7, 1), at(8, 2)), 2, 7, 1, 1);
        longest("31 the lesser PART", with(at(7, 1), at(8, 2), at(7, 5), at(8, 4)), 2, 7, 1, 1);
    }

    /** "SLANT". */
    private static void firstBySlant() {
        longest("31 SLANT 0 ahead of 1", with(at(7, 3), at(8, 4), at(8, 3)), 2, 7, 3, 0);
        longest("31 SLANT -1 ahead of 0", with(at(7, 3), at(8, 3), at(8, 2)), 2, 7, 3, -1);
        longest("31 SLANT -1 ahead of 1", with(at(7, 0), at(8, 1), at(8, 7)), 2, 7, 0, -1);
        longest("31 the longer one ahead of that", with(at(7, 3), at(8, 2), at(8, 4), at(9, 5)), 3, 7, 3, 1);
    }

    /** "what 0: the first TURN, 1: the first PART, 2: SLANT (1, 6)". */
    private static void lineWhat() {
        DiscCutter x = with(at(7, 3), at(8, 2));
        longest("31 what 0 to 2", x, 2, 7, 3, -1);
        int[] wrong = {DEEP, -1, 3, FAR};
        for (int what : wrong) {
            Due.due("31 what " + what, x, x.line(what), -1, 1);
        }
    }

    // ---- 32

    /** "(0 without CLICKS)". */
    private static void coverOfNone() {
        DiscCutter x = new DiscCutter();
        Due.due("32 without", x, x.cover(), 0, 0);
    }

    /** "LINES (also of one CLICK)". */
    private static void coverOfOneClick() {
        DiscCutter x = with(at(0, 0));
        Due.due("32 one", x, x.cover(), 1, 0);
        x.click(2, 0);
        Due.due("32 a TURN is left out", x, x.cover(), 2, 0);
        x.click(99, 0);
        Due.due("32 TURNS do not go round", x, x.cover(), 3, 0);
        for (int part = 2; part < 7; part++) {
            Due.due("32 a SLANT of " + part, with(at(4, 0), at(5, part)).cover(), 2);
            Due.due("32 a SLANT of -" + part, with(at(4, part), at(5, 0)).cover(), 2);
        }
    }

    /** "round by 8": one LINE over PART 0. */
    private static void coverOfOneLine() {
        Due.due("32 from 7 on to 0", with(at(4, 6), at(5, 7), at(6, 0)).cover(), 1);
        Due.due("32 from 0 back to 7", with(at(6, 6), at(5, 7), at(4, 0)).cover(), 1);
    }

    /** "the fewest LINES .. that have all CLICKS together": one CLICK may be in two of them. */
    private static void coverTogether() {
        Due.due("32 two that cross in a CLICK",
            with(at(1, 1), at(2, 2), at(3, 3), at(1, 3), at(3, 1)).cover(), 2);
        Due.due("32 three from one CLICK", with(at(1, 4), at(2, 3), at(2, 4), at(2, 5)).cover(), 3);
        Due.due("32 two beside one another", with(at(1, 1), at(2, 1), at(1, 2), at(2, 2)).cover(), 2);
    }

    /** "the fewest": not always with the longest one. */
    private static void coverNotByTheLongest() {
        DiscCutter x = with(at(0, 2), at(1, 0), at(1, 1), at(2, 1), at(2, 2), at(3, 1));
        longest("32 the longest, behind which three are left", x, 3, 1, 1, 0);
        Due.due("32 three others of two", x, x.cover(), 3, 0);
        Due.due("32 with and without shared ones",
            with(at(1, 0), at(1, 2), at(2, 1), at(2, 3), at(3, 0), at(4, 0), at(4, 2)).cover(), 4);
    }

    /** "at most 16": all of them, near and far. */
    private static void coverOf16() {
        DiscCutter x = new DiscCutter();
        for (int k = 0; k < 16; k++) {
            x.click(k / 8, k % 8);
        }
        Due.due("32 two full TURNS", x, x.cover(), 8, 0);
        x.clean();
        for (int k = 0; k < 16; k++) {
            x.click(k / 8 * 2, k % 8);
        }
        Due.due("32 two full TURNS apart", x, x.cover(), 16, 0);
        x.clean();
        for (int k = 0; k < 16; k++) {
            x.click(k / 4, k % 4);
        }
        Due.due("32 four by four", x, x.cover(), 4, 0);
    }
}
