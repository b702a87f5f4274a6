/** Promises 42 to 47: texts, each with its FAULT, or with what its RUN lays or its ERROR. */
public final class SheetTest {
    public static void main(String[] args) {
        feed();
        sheet();
        faultsOfTokens();
        faultsOfStanding();
        faultsOfLimits();
        faultsOfNumbers();
        faultsTwice();
        lay();
        options();
        repeat();
        choose();
        marks();
        errors();
        tooManySteps();
        putBack();
        Due.end();
    }

    // ---- 42 to 44

    private static void feed() {
        DiscCutter x = new DiscCutter();
        x.parts(5);
        for (int k = 1; k <= 30; k++) {
            Due.due("42 feed", x.feed(0x20202020, 0x20202020, 0x20202020, 0x20202020, 0x20202020), 20 * k);
        }
        Due.due("42 more than 600", x.feed(0, 0, 0, 0, 0), -1);
        Due.due("42 it has no STATUS", x.status(), 1);
        Due.due("43 sheet(601)", x, x.sheet(601), -1, 1);
        Due.due("42 the tape stays", x.feed(0, 0, 0, 0, 0), -1);
        Due.due("43 sheet(600)", x, x.sheet(600), 0, 0);
        // "side" " 1 ;" and what isn't read
        Due.due("42 the highest byte first", x.feed(0x73696465, 0x2031203b, -1, -1, -1), 20);
        Due.due("43 sheet(8)", x, x.sheet(8), 1, 0);
        x.feed(0x73696465, 0x2031203b, 0xff202020, 0, 0);
        Due.due("43 sheet(9)", x, x.sheet(9), -1, 9);
        Due.due("44 a byte above 127", x.fault(0), 1);
        Due.due("44 its place", x.fault(1), 8);
    }

    private static void sheet() {
        DiscCutter x = new DiscCutter();
        Due.due("44 fault(0) ahead of any", x.fault(0), -1);
        Due.due("44 fault(1) ahead of any", x.fault(1), -1);
        Due.due("43 sheet(1) of an empty tape", x, x.sheet(1), -1, 1);
        Due.due("43 sheet(-1)", x, x.sheet(-1), -1, 1);
        Due.due("44 STATUS 1 tells no FAULT", x.fault(0), -1);
        Due.due("45 there is no SHEET", x, x.run(), -1, 9);
        Due.due("46 error(0) ahead of any", x.error(0), -1);
        Due.due("43 an empty one", x, x.sheet(0), 0, 0);
        Due.due("44 fault(0)", x.fault(0), 0);
        Due.due("44 fault(1)", x.fault(1), -1);
        Due.due("44 fault(2)", x.fault(2), -1);
        Due.due("44 fault(-1)", x.fault(-1), -1);
        Due.due("45 run()", x, x.run(), 0, 0);
        Due.due("46 error(0)", x.error(0), 0);
        Bench.sheet(x, "lead 3;");
        Due.due("43 the tape is empty then", x, x.sheet(1), -1, 1);
        Bench.put(x, "lead 4; lead;");
        Due.due("43 a FAULT", x, x.sheet(13), -1, 9);
        Due.due("43 the tape is empty then, too", x, x.sheet(1), -1, 1);
        Due.due("44 fault(1)", x.fault(1), 12);
        Due.due("43 the SHEET stays", x, x.run(), 3, 0);
        Bench.put(x, "lead 12; lead 1;");
        Due.due("43 a NUMBER is cut where n is", x, x.sheet(6), -1, 9);
        Due.due("44 the end", x.fault(1), 6);
        Bench.put(x, "lead 12; lead 1;");
        Due.due("43 a WORD is cut where n is", x, x.sheet(11), -1, 9);
        Due.due("44 the WORD", x.fault(1), 9);
        Bench.put(x, "mark a              ");
        Due.due("43 blanks end where n is", x, x.sheet(8), -1, 9);
        Due.due("44 the end", x.fault(1), 8);
        Texts.good("", 0);
        Texts.good("  \n ", 0);
        Texts.good("side 0;lead 1;song 9;lock 0;mark a;", 5);
        Texts.good("side\n1\n;", 1);
        Texts.good("side0001;lead0100;", 2);
        Texts.good("song 3 from 0 to 60 soft 40 fade 60;", 1);
        Texts.good("song 3fade1soft0to1from59;", 1);
        Texts.good("again 9{lead 1;again 0{}}", 3);
        Texts.good("when parts<9999{}else{side 1;}", 2);
        Texts.good("when room>0{lead 2;}", 2);
        Texts.good("when have abcdefgh{mark abcdefgh;}else{mark mark;}mark else;", 4);
        Texts.good("when have else{}else{}", 1);
    }

    private static void faultsOfTokens() {
        Texts.bad("|#", 1);
        Texts.bad("lead |A", 1);
        Texts.bad("lead 1|.", 1);
        Texts.bad("lead |12345;", 1);
        Texts.bad("|00000", 1);
        Texts.bad("lead 1;\n |\t", 1);
        Texts.bad("side|D 1;", 1);
        Texts.bad("mark |12345", 1);
        Texts.bad("when parts |=", 1);
        Texts.bad("when parts<1{}|!", 1);
        Texts.bad("|-1", 1);
    }

    private static void faultsOfStanding() {
        Texts.bad("|;", 2);
        Texts.bad("|12", 2);
        Texts.bad("|}", 2);
        Texts.bad("|{}", 2);
        Texts.bad("|sid 1;", 2);
        Texts.bad("|sides 1;", 2);
        Texts.bad("|xide 1;", 2);
        Texts.bad("|sidx 1;", 2);
        Texts.bad("song 1 |tom 1;", 2);
        Texts.bad("|else{}", 2);
        Texts.bad("|from 1;", 2);
        Texts.bad("side|", 2);
        Texts.bad("side  |", 2);
        Texts.bad("side |one;", 2);
        Texts.bad("side 1|", 2);
        Texts.bad("side 1 |1;", 2);
        Texts.bad("lead 1|<", 2);
        Texts.bad("mark |;", 2);
        Texts.bad("mark |1;", 2);
        Texts.bad("mark |abcdefghi;", 2);
        Texts.bad("mark ab|1;", 2);
        Texts.bad("|siDe 1;", 2);
        Texts.bad("lock 1 |from 1;", 2);
        Texts.bad("song 1 |side 1;", 2);
        Texts.bad("song 1 from |;", 2);
        Texts.bad("song 1 from 1 |2;", 2);
        Texts.bad("song 1 |", 2);
        Texts.bad("again 1 |;", 2);
        Texts.bad("again 1 {|", 2);
        Texts.bad("again 1 {lead 1;|", 2);
        Texts.bad("again 1 {}|}", 2);
        Texts.bad("again 1 {} |else {}", 2);
        Texts.bad("again 1 {|{}}", 2);
        Texts.bad("when |{}", 2);
        Texts.bad("when |mark a{}", 2);
        Texts.bad("when parts |1{}", 2);
        Texts.bad("when parts <|{}", 2);
        Texts.bad("when parts <1 |side 1;", 2);
        Texts.bad("when have |1{}", 2);
        Texts.bad("when have |{}", 2);
        Texts.bad("when have |abcdefghi{}", 2);
        Texts.bad("when have a{}else |side 1;", 2);
        Texts.bad("when have a{}else{}|else{}", 2);
        Texts.bad("when have a{}else|", 2);
        Texts.bad("when parts |have", 2);
    }

    private static void faultsOfLimits() {
        Texts.good(Texts.times("side 0;", 60), 60);
        Texts.bad(Texts.times("side 0;", 60) + "|lead 1;", 3);
        Texts.bad(Texts.times("side 0;", 60) + "|what", 2);
        Texts.good(Texts.times("again 1{", 4) + Texts.times("}", 4), 4);
        Texts.bad(Texts.times("again 1{", 4) + "|side 0;" + Texts.times("}", 4), 3);
        Texts.bad(Texts.times("when have a{", 4) + "|side", 3);
        Texts.bad(Texts.times("when have a{", 3) + "when have a{}else{|lead 0", 3);
        Texts.bad(Texts.times("again 1{", 4) + "|;", 2);
        String eight = "mark a;mark b;mark c;mark d;mark e;mark f;mark g;mark h;";
        Texts.good(eight + eight + "when have h{}", 17);
        Texts.bad(eight + "mark |i;", 3);
        Texts.bad(eight + "when have |i{}", 3);
        Texts.good("mark ab;mark ac;mark bb;mark a;mark aa;mark aab;mark b;mark abb;mark ac;", 9);
        Texts.bad("mark ab;mark ac;mark bb;mark a;mark aa;mark aab;mark b;mark abb;mark |acc;", 3);
        Texts.bad("when have z{}" + eight.substring(0, 49) + "mark |h;", 3);
    }

    private static void faultsOfNumbers() {
        Texts.bad("side |2;", 4);
        Texts.bad("lead |0;", 4);
        Texts.bad("lead |101;", 4);
        Texts.bad("song |10;", 4);
        Texts.bad("lock |10;", 4);
        Texts.bad("again |10{}", 4);
        Texts.bad("song 0 from |60;", 4);
        Texts.bad("song 0 to |0;", 4);
        Texts.bad("song 0 to |61;", 4);
        Texts.bad("song 0 soft |41;", 4);
        Texts.bad("song 0 fade |0;", 4);
        Texts.bad("song 0 fade |61;", 4);
        Texts.bad("lead |9999 lead", 4);
        Texts.good("when room<0{}when parts>9999{}", 2);
    }

    private static void faultsTwice() {
        Texts.bad("song 0 from 1 |from 1;", 5);
        Texts.bad("song 0 to 1 soft 0 fade 1 |to 99;", 5);
        Texts.bad("song 0 from 1 to 2 soft 3 fade 4 |soft", 5);
        Texts.bad("song 0 fade 1 |fade #", 5);
        Texts.bad("song 0 from |99 from 1;", 4);
    }

    // ---- 45, 46

    private static void lay() {
        DiscCutter x = Texts.withSongs();
        x.lead(0, 30);
        x.lay(1, 0);
        x.lock(1, 0);
        Texts.runs(x, "side 1; lead 2; song 1; side 0; song 0; lock 0; side 1; lead 1;", 20);
        Texts.levels(x, 0, 1, 2, 3, 4, 5, 6, 7, 8, 9, 10);
        Texts.levels(x, 1, 0, 0, 1, 2, 3, 4, 5, 6, 7, 0);
        Due.due("45 locked(0)", x, x.locked(0), 0, 0);
        Due.due("45 locked(1)", x, x.locked(1), -1, 6);
        Due.due("38 a LEAD PART", x, x.songHeard(1, 0), -1, 0);
        Due.due("38 a SONG", x, x.songHeard(1, 2), 1, 0);
        Due.due("46 error(2)", x.error(2), -1);
        Due.due("46 error(-1)", x.error(-1), -1);
        Due.due("45 again the same", x, x.run(), 20, 0);
        Texts.runs(x, "", 0);
    }

    private static void options() {
        DiscCutter x = Texts.withSongs();
        Texts.runs(x, "song 0 from 3 to 6;", 3);
        Texts.levels(x, 0, 4, 5, 6);
        Texts.runs(x, "song 0 from 9;", 1);
        Texts.levels(x, 0, 10);
        Texts.runs(x, "song 0 to 1;", 1);
        Texts.runs(x, "song 0 soft 4;", 10);
        Texts.levels(x, 0, 1, 2, 3, 4, 4, 4, 4, 4, 4, 4);
        Texts.runs(x, "song 0 fade 3;", 10);
        Texts.levels(x, 0, 1, 2, 3, 4, 5, 6, 7, 8 * 3 / 4, 9 * 2 / 4, 10 / 4);
        Texts.runs(x, "song 0 fade 60 from 7;", 3);
        Texts.levels(x, 0, 8 * 3 / 61, 9 * 2 / 61, 10 / 61);
        Texts.runs(x, "song 0 from 6 to 9 fade 2 soft 8;", 3);
        Texts.levels(x, 0, 7, 8 * 2 / 3, 8 / 3);
        Texts.runs(x, "song 0 from 8 soft 0;", 2);
        Texts.levels(x, 0, 0, 0);
        Due.due("38 soft, but of the SONG", x, x.songHeard(0, 0), 0, 0);
    }

    private static void repeat() {
        DiscCutter x = Texts.withSongs();
        Texts.runs(x, "again 3 {lead 2; again 2 {side 1; lead 1;} side 0;}", 12);
        Due.due("parts(0)", x.parts(0), 6);
        Due.due("parts(1)", x.parts(1), 6);
        Texts.runs(x, "again 0 {song 9;} lead 1;", 1);
        Texts.runs(x, "again 9 {again 9 {again 9 {again 9 {}}}}", 0);
    }

    private static int roomOfSong0() {
        DiscCutter x = Texts.withSongs();
        x.lay(0, 0);
        return x.room(0);
    }

    private static void choose() {
        DiscCutter x = Texts.withSongs();
        Texts.runs(x, "lead 5; when parts > 5 {lead 10;} else {lead 20;}", 25);
        Texts.runs(x, "lead 5; when parts < 6 {lead 10;} else {lead 20;}", 15);
        Texts.runs(x, "lead 5; when parts < 5 {lead 10;}", 5);
        Texts.runs(x, "lead 5; side 1; when parts < 1 {lead 10;}", 15);
        Texts.runs(x, "song 0; when room > 15 {lead 1;}", 11);
        Texts.runs(x, "song 0; when room < " + roomOfSong0() + "{} else {lead 1;}", 11);
        Texts.runs(x, "song 0; when room > " + roomOfSong0() + "{} else {lead 1;}", 11);
        Texts.runs(x, "song 0; when room < " + (roomOfSong0() + 1) + "{lead 1;}", 11);
        Texts.runs(x, "when room < 1 {lead 1;}", 1);
        Texts.runs(x, "when have a {lead 1;} else {lead 2;} mark a; when have a {lead 4;}", 6);
        Texts.runs(x, "when parts > 9 {} else {when have b {} else {lead 7;}}", 7);
    }

    // ---- 47

    private static void marks() {
        DiscCutter x = Texts.withSongs();
        Texts.runs(x, "when have c {mark b;} lead 3; mark a; side 1; lead 4; mark c; lead 1; mark a;", 8);
        Due.due("47 c stands first", x, x.mark(0, 0), 1, 0);
        Due.due("47 its PARTS", x, x.mark(0, 1), 4, 0);
        Due.due("47 a, the latest", x, x.mark(1, 0), 1, 0);
        Due.due("47 its PARTS", x, x.mark(1, 1), 5, 0);
        Due.due("47 b has none", x, x.mark(2, 0), -1, 6);
        Due.due("47 mark(-1, 0)", x, x.mark(-1, 0), -1, 1);
        Due.due("47 mark(0, 2)", x, x.mark(0, 2), -1, 1);
        Due.due("47 mark(9, -1)", x, x.mark(9, -1), -1, 1);
        Due.due("47 mark(MAX, 0)", x, x.mark(Integer.MAX_VALUE, 0), -1, 6);
        Bench.sheet(x, "lead #");
        Due.due("47 behind a FAULT", x, x.mark(1, 1), 5, 0);
        Bench.sheet(x, "mark q;");
        Due.due("47 behind a new SHEET", x, x.mark(0, 0), -1, 6);
        x.run();
        Due.due("47 of an empty SIDE", x, x.mark(0, 1), 0, 0);
        Texts.runs(x, "mark ab; lead 1; mark ac; lead 1; mark bc; lead 1; mark ab; when have bb {lead 9;}", 3);
        Due.due("47 ab", x, x.mark(0, 1), 3, 0);
        Due.due("47 ac", x, x.mark(1, 1), 1, 0);
        Due.due("47 bc", x, x.mark(2, 1), 2, 0);
        Due.due("47 bb has none", x, x.mark(3, 1), -1, 6);
        Texts.runs(x, "when have a{}when have b{}when have c{}when have d{}when have e{}when have f{}when have g{}"
            + "lead 5; mark h; when have h{lead 1;}", 6);
        Due.due("47 the eighth NAME", x, x.mark(0, 1), 5, 0);
        Texts.runs(x, "lead 1;", 1);
        Due.due("47 none", x, x.mark(0, 0), -1, 6);
    }

    private static void errors() {
        DiscCutter x = Texts.withSongs();
        Texts.fails(x, "|song 3;", 1);
        Texts.fails(x, "lead 1; |song 0 from 5 to 5;", 1);
        Texts.fails(x, "lead 1; |song 0 from 6 to 5;", 1);
        Texts.fails(x, "|song 0 to 11;", 1);
        Texts.fails(x, "|song 0 from 10;", 1);
        Texts.fails(x, "lead 1;|lock 3;", 1);
        Texts.fails(x, "lead 1;|lock 1;", 1);
        Texts.fails(x, "|lock 1;", 1);
        Texts.fails(x, "lead 1; lock 0; |lead 1;", 2);
        Texts.fails(x, "lead 1; lock 0; |song 0;", 2);
        Texts.fails(x, "lead 1; lock 0; |song 3;", 1);
        Texts.fails(x, "lead 1; lock 0; |lock 0;", 2);
        Texts.fails(x, "again 2 {|lead 1; lead 100; lead 99; lock 0;}", 2);
        Texts.fails(x, "again 4 {lead 100;} |lead 1;", 3);
        Texts.fails(x, "again 7 {|song 2;}", 3);
        Texts.fails(x, "again 4 {lead 100;} lock 0; |lead 1;", 2);
        Texts.fails(x, "|lock 0;", 5);
        Texts.runs(x, "again 6 {song 2;} again 4 {song 0;}", 400);
        Texts.runs(x, "again 6 {song 2;} again 3 {song 0;} lead 9; song 0 from 9;", 400);
        Texts.fails(x, "again 6 {song 2;} again 3 {song 0;} lead 9; |song 0 from 8;", 3);
        Texts.runs(x, "again 4 {lead 100;} lock 0; side 1; lead 100;", 500);
        x.rules(20, 1);
        Texts.runs(x, "song 0; when parts > 3 {}", 10);
        Texts.fails(x, "song 0; side 1; when room < 1 {side 0;} |when room > 3 {}", 4);
        x.rules(4, 8);
        Due.due("46 of the latest run()", x.error(0), 4);
        Texts.runs(x, "song 0; when room > 3 {}", 10);
    }

    private static void tooManySteps() {
        DiscCutter x = Texts.withSongs();
        String thousand = "again 9{again 9{again 9{side 0;}side 1;}}again 9{again 7{side 1;}}";
        // 1, 9, 81, 729, 81; 1, 9, 63: 974 in all
        Texts.runs(x, thousand + Texts.times("side 0;", 26), 0);
        Texts.fails(x, thousand + Texts.times("side 0;", 26) + "|side 0;", 6);
        Texts.fails(x, thousand + Texts.times("side 0;", 26) + "|lead 1;", 6);
        Texts.fails(x, thousand + Texts.times("side 0;", 26) + "|again 0{}", 6);
        Texts.fails(x, thousand + Texts.times("side 0;", 26) + "|song 3;", 1);
        Texts.fails(x, thousand + Texts.times("side 0;", 26) + "|lock 0;", 5);
        Texts.fails(x, "again 9{again 9{again 9{|side 0;side 1;}}}", 6);
    }

    private static void putBack() {
        DiscCutter x = Texts.withSongs();
        String text = "mark a; lead 9; when room > 0 {mark b; lead 1;}";
        Texts.runs(x, text, 10);
        x.anew(0);
        x.lay(0, 0);
        x.lock(0, 0);
        x.lead(1, 3);
        x.rules(20, 1);
        Due.due("45 it CAN'T be cut now", x, x.run(), -1, 10);
        Due.due("46 error(0)", x.error(0), 4);
        Due.due("46 error(1)", x.error(1), text.indexOf("when"));
        Due.due("47 MARKS as they were", x, x.mark(0, 1), 0, 0);
        Due.due("47 MARKS as they were", x, x.mark(1, 1), 9, 0);
        x.rules(4, 8);
        Due.due("45 locked(0)", x, x.locked(0), 0, 0);
        Texts.levels(x, 0, 1, 2, 3, 4, 5, 6, 7, 8, 9, 10);
        Texts.levels(x, 1, 0, 0, 0);
        Due.due("38 a SONG, as it was", x, x.songHeard(0, 4), 0, 0);
    }
}
