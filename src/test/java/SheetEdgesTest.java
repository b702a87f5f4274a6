/** Promises 42 to 44 and FAULTS: a test for each sentence that names an edge; what is quoted is the document's. */
public final class SheetEdgesTest {
    private static final String EIGHT = "mark a;mark b;mark c;mark d;mark e;mark f;mark g;mark h;";

    public static void main(String[] args) {
        feedUpTo600();
        feedHighestFirst();
        firstBytes();
        bytesTheTapeHasNot();
        emptyBehindASheet();
        emptyBehindAFault();
        sheetStaysBehindAFault();
        stepsWithinOthers();
        textOf600();
        textOfNone();
        faultAheadOfAny();
        faultOfTheLatest();
        faultWhat();
        noTokenBeginsSo();
        blanksBetween();
        asLongAsTheyGo();
        numbersOf1To4Digits();
        namesOf1To8();
        anyNumberOfSteps();
        perhapsElse();
        whereTokensStand();
        theEndOfTheText();
        a61stStep();
        withinFourOthers();
        aNinthName();
        numbersOfSteps();
        numbersOfOptions();
        numbersCompared();
        optionsTwice();
        theFirstAlongTheText();
        theLeastKind();
        Due.end();
    }

    // ---- 42

    /** "how many it has; NONE if there would be more than 600". */
    private static void feedUpTo600() {
        DiscCutter x = new DiscCutter();
        for (int k = 1; k <= 30; k++) {
            Due.due("42 feed " + k, x.feed(0x20202020, 0x20202020, 0x20202020, 0x20202020, 0x20202020), 20 * k);
        }
        Due.due("42 600 and 20", x.feed(0x23232323, 0, 0, 0, 0), -1);
        Due.due("42 once more", x.feed(0x23232323, 0, 0, 0, 0), -1);
        Due.due("43 600 there are, and all blanks", x, x.sheet(600), 0, 0);
        Due.due("42 behind a SHEET", x.feed(0, 0, 0, 0, 0), 20);
    }

    /** "Twenty bytes come behind those on the tape, the highest of each int first". */
    private static void feedHighestFirst() {
        DiscCutter x = new DiscCutter();
        x.feed(0x6c656164, 0x2031303b, 0x6c656164, 0x20320a3b, 0x736f6e67);
        x.feed(0x20302066, 0x726f6d20, 0x3120746f, 0x20323b20, 0x20202020);
        Due.due("42 lead 10; lead 2 ; song 0 from 1 to 2;", x, x.sheet(40), 3, 0);
        Bench.song(x, 0, 7, 8);
        Due.due("45 10, 2 and 1", x, x.run(), 13, 0);
        x.feed(0x20202020, 0x20202020, 0x20202020, 0x20202020, 0x202020ff);
        x.sheet(20);
        Due.due("42 the lowest byte of the last int", x.fault(1), 19);
        x.feed(0xff202020, 0x20202020, 0x20202020, 0x20202020, 0x20202020);
        x.sheet(20);
        Due.due("42 the highest byte of the first int", x.fault(1), 0);
        x.feed(0x20202020, 0x20202020, 0x2020ff20, 0x20202020, 0x20202020);
        x.sheet(20);
        Due.due("42 within", x.fault(1), 10);
    }

    // ---- 43

    /** "The first n bytes of the tape". */
    private static void firstBytes() {
        DiscCutter x = new DiscCutter();
        String text = "lead 12;lead 3;";
        int[] steps = {0, -1, -1, -1, -1, -1, -1, -1, 1, -1, -1, -1, -1, -1, -1, 2};
        for (int n = 0; n < steps.length; n++) {
            Bench.put(x, text);
            Due.due("43 the first " + n, x, x.sheet(n), steps[n], steps[n] < 0 ? 9 : 0);
        }
        Bench.put(x, text);
        x.sheet(7);
        Due.due("44 a NUMBER, and then the end", x.fault(1), 7);
        Bench.put(x, text);
        x.sheet(3);
        Due.due("44 a WORD that is none", x.fault(1), 0);
    }

    /** "(1: n below 0, or more than the tape has; ..": the tape stays. */
    private static void bytesTheTapeHasNot() {
        DiscCutter x = new DiscCutter();
        Due.due("43 an empty tape", x, x.sheet(1), -1, 1);
        Bench.put(x, "lead 7;");
        int[] wrong = {Bench.DEEP, -1, 21, 600, Bench.FAR};
        for (int n : wrong) {
            Due.due("43 " + n, x, x.sheet(n), -1, 1);
            Due.due("45 there is no SHEET", x, x.run(), -1, 9);
        }
        Due.due("44 no FAULT", x.fault(0), -1);
        Due.due("43 the tape stays", x, x.sheet(7), 1, 0);
        Due.due("45 7 PARTS", x, x.run(), 7, 0);
        Bench.put(x, "lead 7;             ");
        Due.due("43 all that it has", x, x.sheet(20), 1, 0);
    }

    /** "(which is empty then)". */
    private static void emptyBehindASheet() {
        DiscCutter x = new DiscCutter();
        Bench.put(x, "lead 7;lead 8;");
        Due.due("43 a part of it", x, x.sheet(7), 1, 0);
        Due.due("43 empty", x, x.sheet(1), -1, 1);
        Due.due("42 empty", x.feed(0x20202020, 0x20202020, 0x20202020, 0x20202020, 0x20202020), 20);
        Due.due("43 none of it", x, x.sheet(0), 0, 0);
        Due.due("43 empty", x, x.sheet(1), -1, 1);
    }

    /** "9: the tape is empty then, too". */
    private static void emptyBehindAFault() {
        DiscCutter x = new DiscCutter();
        Bench.put(x, "#lead 8;");
        Due.due("43 a FAULT", x, x.sheet(8), -1, 9);
        Due.due("43 empty", x, x.sheet(1), -1, 1);
        Due.due("42 empty", x.feed(0, 0, 0, 0, 0), 20);
    }

    /** "the SHEET stays". */
    private static void sheetStaysBehindAFault() {
        DiscCutter x = new DiscCutter();
        Due.due("43 a FAULT, and no SHEET", x, Bench.sheet(x, "lead"), -1, 9);
        Due.due("45 there is none", x, x.run(), -1, 9);
        Bench.sheet(x, "lead 3;mark a;");
        for (int k = 0; k < 3; k++) {
            Due.due("43 a FAULT", x, Bench.sheet(x, "again 2{mark b;lead 9;}lead"), -1, 9);
            Due.due("45 the one ahead of it", x, x.run(), 3, 0);
        }
        Due.due("47 its MARK", x, x.mark(0, 1), 3, 0);
        Due.due("47 no other", x, x.mark(1, 1), -1, 6);
        Bench.sheet(x, "lead 4;");
        Due.due("45 a new one", x, x.run(), 4, 0);
    }

    /** "how many STEPS it has, all within others, too". */
    private static void stepsWithinOthers() {
        Texts.good("", 0);
        Texts.good("lead 1;", 1);
        Texts.good("again 9{}", 1);
        Texts.good("again 0{lead 1;}", 2);
        Texts.good("when have a{lead 1;mark a;}else{lead 1;again 2{lead 1;}}", 6);
        Texts.good("again 1{again 1{again 1{again 1{}}}}lead 1;", 5);
    }

    /** "A SHEET is a TEXT of at most 600 bytes." */
    private static void textOf600() {
        String text = "lead 1;" + Texts.times(" ", 586) + "lead 2;";
        DiscCutter x = new DiscCutter();
        Due.due("43 600 bytes", x, Bench.sheet(x, text), 2, 0);
        Due.due("45 600 bytes", x, x.run(), 3, 0);
        Texts.bad(Texts.times("\n", 599) + "|#", 1);
        Texts.bad("again 1{" + Texts.times(" ", 592) + "|", 2);
    }

    /** "SHEET: {STEP}": no STEP at all. */
    private static void textOfNone() {
        DiscCutter x = new DiscCutter();
        Due.due("43 of an empty tape", x, x.sheet(0), 0, 0);
        Due.due("44 no FAULT", x.fault(0), 0);
        x.lead(0, 3);
        Due.due("45 both SIDES are anew", x, x.run(), 0, 0);
        Due.due("45 both SIDES are anew", x, x.parts(0), 0, 0);
    }

    // ---- 44

    /** "NONE for others, and ahead of any." */
    private static void faultAheadOfAny() {
        DiscCutter x = new DiscCutter();
        for (int what = -1; what < 3; what++) {
            Due.due("44 ahead of any", x.fault(what), -1);
        }
        x.sheet(1);
        Due.due("44 STATUS 1 is none", x.fault(0), -1);
    }

    /** "Of the latest sheet() with STATUS 0 or 9". */
    private static void faultOfTheLatest() {
        DiscCutter x = new DiscCutter();
        Bench.sheet(x, "lead 0;");
        Due.due("44 a FAULT", x.fault(0), 4);
        Due.due("44 its place", x.fault(1), 5);
        x.sheet(1);
        Due.due("44 behind STATUS 1", x.fault(0), 4);
        x.run();
        Due.due("44 behind run()", x.fault(1), 5);
        Bench.sheet(x, "lead 1;");
        Due.due("44 none", x.fault(0), 0);
        Due.due("44 none", x.fault(1), -1);
        x.sheet(-1);
        Due.due("44 behind STATUS 1", x.fault(0), 0);
        Bench.sheet(x, "#");
        Due.due("44 another one", x.fault(0), 1);
        Due.due("44 at the first byte", x.fault(1), 0);
    }

    /** "what 0: the FAULT .., 1: its place .. NONE for others". */
    private static void faultWhat() {
        DiscCutter x = new DiscCutter();
        Bench.sheet(x, "lead 0;");
        int[] others = {Bench.DEEP, -1, 2, Bench.FAR};
        for (int what : others) {
            Due.due("44 what " + what, x.fault(what), -1);
        }
    }

    // ---- FAULTS

    private static boolean isBlank(int b) {
        return b == 10 || b == 32;
    }

    private static boolean isOfTokens(int b) {
        return b >= 'a' && b <= 'z' || b >= '0' && b <= '9' || "{};<>".indexOf(b) >= 0;
    }

    /** "1 no TOKEN begins so", of all bytes that there are. */
    private static void noTokenBeginsSo() {
        DiscCutter x = new DiscCutter();
        for (int b = 0; b < 256; b++) {
            if (b % 64 == 0) {
                x = new DiscCutter();
            }
            x.feed(b << 24, 0, 0, 0, 0);
            Due.due("44 the byte " + b, x, x.sheet(1), isBlank(b) ? 0 : -1, isBlank(b) ? 0 : 9);
            Due.due("44 the byte " + b, x.fault(0), isBlank(b) ? 0 : isOfTokens(b) ? 2 : 1);
            x.feed(0x6c656164, b << 24 | 0x313b20, 0, 0, 0);
            boolean good = isBlank(b) || b >= '0' && b <= '9';
            Due.due("44 lead, the byte " + b + ", 1;", x.sheet(7), good ? 1 : -1);
            Due.due("44 its place", x.fault(1), good ? -1 : b >= 'a' && b <= 'z' ? 0 : 4);
        }
    }

    /** "between them blanks (10, 32)": any number, also none where a TOKEN ends by itself. */
    private static void blanksBetween() {
        Texts.good("\n \n lead \n\n 1  ;\n ", 1);
        Texts.good("lead1;song2from3to4soft5fade6;again7{}when parts<8{}else{}", 4);
        Texts.bad("lead|\t1;", 1);
        Texts.bad("lead 1;|\r\n", 1);
        Texts.bad("|\0lead 1;", 1);
        Texts.bad("lead 1;|\u00a0", 1);
    }

    /** "TOKENS, as long as they go". */
    private static void asLongAsTheyGo() {
        Texts.bad("|leadlead 1;", 2);
        Texts.bad("|lea d 1;", 2);
        Texts.good("lead 11;", 1);
        Texts.bad("lead 1 |1;", 2);
        Texts.bad("song 1 |fromto 1;", 2);
        Texts.bad("when have a{}|elsewhen{}", 2);
        Texts.good("mark leadlead;", 1);
    }

    /** "NUMBERS (1 to 4 digits)", "(a NUMBER of 5 digits and more: at its first)". */
    private static void numbersOf1To4Digits() {
        Texts.good("lead 1;lead 01;lead 001;lead 0001;", 4);
        Texts.bad("lead |00001;", 1);
        Texts.bad("lead |0000000001;", 1);
        Texts.bad("lead |4294967297;", 1);
        Texts.bad("lead |18446744073709551617;", 1);
        Texts.good("when parts<9999{}", 1);
        Texts.bad("when parts<|10000{}", 1);
        Texts.bad("when parts<|00000{}", 1);
    }

    /** "NAME: a WORD of 1 to 8 letters." */
    private static void namesOf1To8() {
        Texts.good("mark a;", 1);
        Texts.good("mark abcdefgh;", 1);
        Texts.bad("mark |abcdefghi;", 2);
        Texts.good("when have abcdefgh{}", 1);
        Texts.bad("when have |abcdefghi{}", 2);
        Texts.bad("mark |;", 2);
        Texts.good("mark a;mark z;mark side;mark again;mark else;mark have;mark from;mark room;", 8);
    }

    /** "({STEP}: any number of times; braces as SIGNS stand around them behind again, when, else". */
    private static void anyNumberOfSteps() {
        Texts.good("again 1{}", 1);
        Texts.good("again 1{lead 1;lead 1;lead 1;}", 4);
        Texts.good("when have a{}else{}", 1);
        Texts.bad("again 1|lead 1;", 2);
        Texts.bad("again 1{lead 1;|", 2);
        Texts.bad("when have a |lead 1;", 2);
        Texts.bad("when have a{}else |lead 1;", 2);
        Texts.bad("|{lead 1;}", 2);
        Texts.bad("again 1{}|;", 2);
        Texts.bad("again 1{|;}", 2);
    }

    /** "[else { {STEP} }]", "[ ] perhaps". */
    private static void perhapsElse() {
        Texts.good("when have a{}", 1);
        Texts.good("when have a{}else{}when have a{}else{}", 2);
        Texts.bad("when have a{}else{}|else{}", 2);
        Texts.bad("|else{}", 2);
        Texts.bad("again 1{}|else{}", 2);
        Texts.bad("when have a{}lead 1;|else{}", 2);
        Texts.good("when have a{when have b{}else{}}else{}", 2);
        Texts.bad("again 1{when have a{}}|else{}", 2);
    }

    /** "2 it can't stand there". */
    private static void whereTokensStand() {
        String[] words = {"side", "lead", "song", "lock", "again"};
        for (String word : words) {
            Texts.bad(word + " |a", 2);
            Texts.bad(word + " |;", 2);
            Texts.bad(word + " |<", 2);
            Texts.bad(word + " 1 |1", 2);
            Texts.bad(word + " 1 |>", 2);
            Texts.bad(word + " 1 |when", 2);
        }
        Texts.bad("side 1 |{", 2);
        Texts.bad("lock 1 |to 2;", 2);
        Texts.bad("mark a |b;", 2);
        Texts.bad("mark a |{", 2);
        Texts.bad("when |1", 2);
        Texts.bad("when |lead", 2);
        Texts.bad("when parts |{", 2);
        Texts.bad("when parts |;", 2);
        Texts.bad("when room <|<", 2);
        Texts.bad("when room >|a", 2);
        Texts.bad("when have |<", 2);
        Texts.bad("when have a |<", 2);
        Texts.bad("song 1 from |to", 2);
        Texts.bad("song 1 |parts", 2);
        Texts.bad("|from 1;", 2);
        Texts.bad("|parts<1", 2);
        Texts.bad("|have a", 2);
        Texts.bad("lead 1;|}", 2);
    }

    /** "(the end: the text's length)". */
    private static void theEndOfTheText() {
        String[] texts = {"side", "side 1", "song 1 from", "song 1 from 1", "mark", "mark a", "again", "again 1",
            "again 1{", "again 1{lead 1;", "when", "when parts", "when parts<", "when parts<1", "when parts<1{",
            "when have", "when have a", "when have a{", "when have a{}else", "when have a{}else{"};
        for (String text : texts) {
            Texts.bad(text + "|", 2);
            Texts.bad(text + " \n |", 2);
        }
    }

    /** "3 a 61st STEP (at its WORD)". */
    private static void a61stStep() {
        String sixty = Texts.times("side 0;", 60);
        Texts.good(sixty, 60);
        String[] more = {"|side 0;", "|lead 1;", "|song 0;", "|lock 0;", "|mark a;", "|again 1{}", "|when have a{}",
            "|lead", "|lead 999"};
        for (String step : more) {
            Texts.bad(sixty + step, 3);
        }
        Texts.good(Texts.times("again 0{}", 58) + "again 1{lead 1;}", 60);
        Texts.bad(Texts.times("again 0{}", 58) + "again 1{lead 1;|lead 1;}", 3);
        Texts.bad(Texts.times("side 0;", 59) + "when have a{}else{|lead 1;}", 3);
        Texts.good(Texts.times("side 0;", 58) + "when have a{}else{lead 1;}", 60);
    }

    /** "a STEP within four others (at its WORD)". */
    private static void withinFourOthers() {
        String three = "again 1{when have a{when have b{}else{";
        Texts.good(three + "lead 1;mark c;again 1{}}}}", 6);
        Texts.bad(three + "again 1{|lead 1;}}}}", 3);
        Texts.bad(three + "when have a{|again 1{}}}}}", 3);
        Texts.bad(three + "when have a{}else{|mark c;}}}}", 3);
        Texts.bad(three + "when have a{}else{|;}}}}", 2);
        Texts.good(three + "again 1{}again 1{}}again 1{again 1{}}}}", 7);
    }

    /** "a ninth NAME in all (at it)": a ninth other one, behind mark and behind have. */
    private static void aNinthName() {
        Texts.good(EIGHT, 8);
        Texts.good(EIGHT + "mark a;mark h;when have d{}", 11);
        Texts.bad(EIGHT + "mark |i;", 3);
        Texts.bad(EIGHT + "when have |i{}", 3);
        Texts.bad(EIGHT + "mark |aa;", 3);
        Texts.bad("when have x{}" + EIGHT.substring(0, 49) + "mark |h;", 3);
        Texts.bad("when have a{}when have b{}when have c{}when have d{}when have e{}when have f{}when have g{}"
            + "when have h{}when have a{when have |i{}}", 3);
        DiscCutter x = new DiscCutter();
        Bench.sheet(x, EIGHT);
        Due.due("44 each SHEET has its own", x, Bench.sheet(x, "mark i;"), 1, 0);
        Bench.sheet(x, EIGHT + "mark i;");
        Due.due("44 each SHEET has its own", x, Bench.sheet(x, EIGHT.replace("mark a", "mark k")), 8, 0);
        for (int k = 0; k < 4; k++) {
            Due.due("44 eight NAMES", x, Bench.sheet(x, EIGHT), 8, 0);
            Due.due("44 eight others, elsewhere", x, Bench.sheet(x, " " + EIGHT.replace(" ", "  x")), 8, 0);
            Due.due("44 a ninth one, elsewhere", x, Bench.sheet(x, "lead 9;" + EIGHT + " mark i;"), -1, 9);
        }
    }

    /** A NUMBER of a STEP or an OPTION: the least and the greatest, and the first ones beyond them. */
    private static void range(String ahead, int least, int greatest, String behind) {
        Texts.good(ahead + least + behind, 1);
        Texts.good(ahead + greatest + behind, 1);
        if (least > 0) {
            Texts.bad(ahead + "|" + (least - 1) + behind, 4);
        }
        Texts.bad(ahead + "|" + (greatest + 1) + behind, 4);
        Texts.bad(ahead + "|9999" + behind, 4);
    }

    /** "4 a NUMBER that is too small or too great: side 0 to 1, lead 1 to 100, song and lock 0 to 9, again 0 to 9". */
    private static void numbersOfSteps() {
        range("side ", 0, 1, ";");
        range("lead ", 1, 100, ";");
        range("song ", 0, 9, ";");
        range("lock ", 0, 9, ";");
        range("again ", 0, 9, "{}");
    }

    /** "from 0 to 59, to 1 to 60, soft 0 to 40, fade 1 to 60". */
    private static void numbersOfOptions() {
        range("song 0 from ", 0, 59, ";");
        range("song 0 to ", 1, 60, ";");
        range("song 0 soft ", 0, 40, ";");
        range("song 0 fade ", 1, 60, ";");
        range("song 0 to 1 soft 2 fade 3 from ", 0, 59, ";");
        range("song 0 from 1 to ", 1, 60, " soft 2;");
    }

    /** "compared 0 to 9,999". */
    private static void numbersCompared() {
        String[] tests = {"parts<", "parts>", "room<", "room>"};
        for (String test : tests) {
            Texts.good("when " + test + "0{}", 1);
            Texts.good("when " + test + "9999{}", 1);
            Texts.bad("when " + test + "|10000{}", 1);
        }
    }

    /** "5 an OPTION told twice (at its WORD)." */
    private static void optionsTwice() {
        String[] options = {"from 1", "to 2", "soft 3", "fade 4"};
        for (String option : options) {
            String word = option.substring(0, option.indexOf(' '));
            Texts.bad("song 0 " + option + " |" + option + ";", 5);
            Texts.bad("song 0 " + option + " |" + word, 5);
            Texts.bad("song 0 " + option + " |" + word + " 9999;", 5);
            Texts.good("song 0 " + option + ";song 0 " + option + ";", 2);
        }
        Texts.good("song 0 fade 4 soft 3 to 2 from 1;", 1);
        Texts.bad("song 0 fade 4 soft 3 to 2 from 1 |fade 4;", 5);
        Texts.bad("song 0 from 0 |from 0;", 5);
        Texts.bad("song 0 soft 0 |soft 0;", 5);
    }

    /** "FAULTS, the first along the text". */
    private static void theFirstAlongTheText() {
        Texts.bad("lead |0;lead 0;#", 4);
        Texts.bad("song 0 to 1 |to 1;#", 5);
        Texts.bad("mark |;#", 2);
        Texts.bad("lead 1;|#mark ;", 1);
        Texts.bad(EIGHT + "mark |i;side 9;", 3);
        Texts.bad("side |9;" + EIGHT + "mark i;", 4);
        Texts.bad("again |10{", 4);
        Texts.bad("when have a{lead |0;", 4);
    }

    /** "(of one TOKEN the least kind)". */
    private static void theLeastKind() {
        Texts.bad("side 1 |12345;", 1);
        Texts.bad("lead |12345;", 1);
        Texts.bad("mark |12345;", 1);
        Texts.bad("lead 1 |9999;", 2);
        Texts.bad(EIGHT + "mark |abcdefghi;", 2);
        Texts.bad(Texts.times("side 0;", 60) + "|sidle 0;", 2);
        Texts.bad(Texts.times("side 0;", 60) + "|;", 2);
        Texts.bad(Texts.times("side 0;", 60) + "|#", 1);
        Texts.bad(Texts.times("again 1{", 4) + "|else", 2);
        Texts.bad(Texts.times("side 0;", 56) + Texts.times("again 1{", 4) + "|side 0;", 3);
    }
}
