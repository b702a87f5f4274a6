import java.lang.reflect.Method;
import java.util.Random;

/** Long random runs of calls, each answer and STATUS asked of the naive cutter, too. */
public final class OracleTest {
    private static final String[] ALL = {"tray", "write", "read", "pour", "song", "told", "rules", "anew",
        "lead", "lay", "parts", "level", "place", "room", "tight", "cannot", "softer", "soften", "most",
        "order", "sideOf", "songAt", "press", "ring", "inTime", "click", "clean", "longest", "line", "cover",
        "lock", "locked", "knock", "still", "heard", "songHeard", "missed", "placeBeside", "roomBeside",
        "feed", "sheet", "fault", "run", "error", "mark"};

    /** The numbers at the ends of an int, and those where a sign or a first one is. */
    private static final int[] ENDS = {Integer.MIN_VALUE, Integer.MIN_VALUE + 1, -1, 0, 1, 2,
        Integer.MAX_VALUE - 1, Integer.MAX_VALUE};

    private static final int CALLS_OF_ONE = 100;

    private final Random random;
    private final DiscCutter real = new DiscCutter();
    private final NaiveCutter naive = new NaiveCutter();
    private final long seed;

    private OracleTest(long seed) {
        this.seed = seed;
        random = new Random(seed);
    }

    public static void main(String[] args) {
        int runs = args.length > 0 ? Integer.parseInt(args[0]) : 240;
        for (int k = 0; k < runs && Due.wrong() < 20; k++) {
            new OracleTest(k).play();
        }
        for (String name : ALL) {
            playEnds(name);
        }
        Due.end();
    }

    private int upTo(int n) {
        return random.nextInt(n + 1);
    }

    /** A number mostly from a to b, now and then right beside them or far off. */
    private int about(int a, int b) {
        switch (random.nextInt(24)) {
            case 0:
                return a - 1;
            case 1:
                return b + 1;
            case 2:
                return random.nextInt(4) == 0 ? random.nextInt() : a;
            case 3:
                return b;
            default:
                return a + upTo(b - a);
        }
    }

    private long ask(String name, long... v) {
        long want = naive.call(name, v);
        long got = call(name, v);
        StringBuilder what = new StringBuilder("seed " + seed + ": " + name + "(");
        for (long one : v) {
            what.append(one).append(' ');
        }
        Due.due(what + ")", got, want);
        Due.due(what + ") STATUS", real.status(), naive.status);
        return got;
    }

    private void play() {
        if (random.nextInt(4) > 0) {
            int many = 1 + upTo(random.nextBoolean() ? 4 : 9);
            for (int k = 0; k < many; k++) {
                makeSong();
            }
        }
        for (int k = 0; k < 260; k++) {
            switch (random.nextInt(10)) {
                case 0:
                    makeSides();
                    break;
                case 1:
                    makeClicks();
                    break;
                case 2:
                    makeKnocks();
                    break;
                case 3:
                    makeSheet();
                    break;
                default:
                    anyCall(ALL[random.nextInt(ALL.length)]);
                    break;
            }
        }
    }

    /** A call with all numbers of ENDS in all its places, on objects that have something of all. */
    private static void playEnds(String name) {
        int arity = arityOf(name);
        int all = 1;
        for (int k = 0; k < arity; k++) {
            all *= ENDS.length;
        }
        OracleTest test = null;
        for (int k = 0; k < all; k++) {
            if (k % CALLS_OF_ONE == 0) {
                test = new OracleTest(k);
                test.makeAll();
            }
            long[] v = new long[arity];
            int rest = k;
            for (int i = 0; i < arity; i++) {
                v[i] = ENDS[rest % ENDS.length];
                rest /= ENDS.length;
            }
            test.ask(name, v);
        }
    }

    private static int arityOf(String name) {
        for (Method m : DiscCutter.class.getMethods()) {
            if (m.getName().equals(name)) {
                return m.getParameterCount();
            }
        }
        throw new IllegalArgumentException(name);
    }

    private void makeAll() {
        makeSong();
        makeSong();
        ask("tray", 1, upTo(3), upTo(60));
        makeClicks();
        makeSheet();
        makeSides();
        makeKnocks();
    }

    private void makeSong() {
        int length = 1 + upTo(59);
        int loud = upTo(random.nextBoolean() ? 40 : 15);
        ask("tray", 0, 0, length);
        int level = upTo(loud);
        for (int k = 0; k < length; k++) {
            if (random.nextInt(3) == 0) {
                level = upTo(loud);
            }
            ask("write", 0, k, level);
        }
        ask("song", 0, length, upTo(9));
    }

    private void makeSides() {
        if (random.nextInt(3) > 0) {
            ask("rules", 1 + upTo(9), 1 + upTo(19));
        }
        for (int side = 0; side < 2; side++) {
            if (random.nextInt(3) > 0) {
                ask("anew", side);
            }
            int many = upTo(random.nextBoolean() ? 3 : 9);
            for (int k = 0; k < many; k++) {
                if (random.nextInt(4) == 0) {
                    ask("lead", side, 1 + upTo(20));
                } else {
                    ask("lay", side, upTo(9));
                }
            }
            if (random.nextInt(3) == 0) {
                ask("lock", side, upTo(9));
            }
            if (random.nextInt(3) == 0) {
                ask("soften", side, upTo(40));
            }
            askPlaces(side);
        }
        ask("roomBeside");
    }

    private void askPlaces(int side) {
        int n = (int) ask("parts", side);
        for (int k = 0; k < 12; k++) {
            ask("place", side, upTo(n));
            ask("placeBeside", side, upTo(n));
        }
        ask("tight", side, upTo(n));
        ask("tight", side, upTo(3));
        ask("room", side);
        ask("cannot", side);
        ask("softer", side);
    }

    private void makeClicks() {
        ask("clean");
        int turns = 1 + upTo(5);
        int parts = 1 + upTo(6);
        for (int k = 0; k < 17; k++) {
            ask("click", upTo(turns), upTo(parts));
        }
        ask("longest");
        ask("line", 0);
        ask("line", 1);
        ask("line", 2);
        ask("cover");
    }

    private void makeKnocks() {
        ask("still");
        int span = random.nextInt(4) == 0 ? 10000 : 1 + upTo(300);
        int reach = 1 + upTo(399);
        int many = upTo(17);
        for (int k = 0; k < many; k++) {
            ask("knock", upTo(span), upTo(2 * reach) - reach);
        }
        for (int side = 0; side < 2; side++) {
            ask("missed", side);
            for (int k = 0; k < 5; k++) {
                ask("heard", side, upTo(span));
                ask("songHeard", side, upTo(span + 50));
            }
        }
    }

    // ---- SHEETS

    private void makeSheet() {
        StringBuilder text = new StringBuilder();
        steps(text, 0, 1 + upTo(random.nextInt(5) == 0 ? 40 : 5));
        if (random.nextInt(3) == 0) {
            spoil(text);
        }
        if (text.length() > 600) {
            text.setLength(600);
        }
        int length = text.length();
        while (text.length() % 20 != 0) {
            text.append((char) upTo(255));
        }
        for (int k = 0; k < text.length(); k += 20) {
            long[] v = new long[5];
            for (int i = 0; i < 20; i++) {
                v[i / 4] = v[i / 4] << 8 | text.charAt(k + i);
            }
            for (int i = 0; i < 5; i++) {
                v[i] = (int) v[i];
            }
            ask("feed", v);
        }
        ask("sheet", random.nextInt(30) == 0 ? text.length() + 1 : length);
        askSheet();
        ask("run");
        askSheet();
    }

    private void askSheet() {
        for (int what = -1; what < 3; what++) {
            ask("fault", what);
            ask("error", what);
            ask("mark", upTo(4), what);
        }
        for (int side = 0; side < 2; side++) {
            ask("parts", side);
            ask("locked", side);
            ask("room", side);
            int n = (int) ask("parts", side);
            for (int k = 0; k < 6; k++) {
                ask("level", side, upTo(n));
            }
        }
    }

    private String blank() {
        switch (random.nextInt(5)) {
            case 0:
                return "\n";
            case 1:
                return "  ";
            default:
                return " ";
        }
    }

    private String name() {
        char first = (char) ('a' + upTo(random.nextInt(6) == 0 ? 4 : 1));
        return random.nextBoolean() ? "" + first : "" + first + (char) ('a' + upTo(1));
    }

    private int number(int a, int b) {
        int odd = random.nextInt(60);
        return odd == 0 ? Math.max(0, a - 1) : odd == 1 ? b + 1 : a + upTo(b - a);
    }

    private void steps(StringBuilder text, int around, int many) {
        for (int k = 0; k < many; k++) {
            step(text, around);
            text.append(random.nextBoolean() ? "" : blank());
        }
    }

    private void braces(StringBuilder text, int around) {
        text.append("{").append(random.nextBoolean() ? "" : blank());
        steps(text, around + 1, upTo(3));
        text.append("}");
    }

    private void step(StringBuilder text, int around) {
        int kind = random.nextInt(around >= 3 && random.nextInt(8) > 0 ? 7 : 10);
        switch (kind) {
            case 0:
                text.append("side").append(blank()).append(number(0, 1)).append(';');
                break;
            case 1:
                text.append("lead").append(number(1, 30)).append(blank()).append(';');
                break;
            case 2:
                text.append("mark ").append(name()).append(';');
                break;
            case 3:
                text.append("lock ").append(number(0, 4)).append(";");
                break;
            case 4:
            case 5:
            case 6:
                text.append("song ").append(number(0, random.nextInt(5) == 0 ? 9 : 2));
                options(text);
                text.append(';');
                break;
            case 7:
                text.append("again ").append(number(0, 9));
                braces(text, around);
                break;
            default:
                text.append("when ").append(test());
                braces(text, around);
                if (random.nextBoolean()) {
                    text.append(random.nextBoolean() ? "" : blank()).append("else");
                    braces(text, around);
                }
                break;
        }
    }

    private String test() {
        String compares = random.nextBoolean() ? "<" : " > ";
        switch (random.nextInt(3)) {
            case 0:
                return "parts" + compares + number(0, 200);
            case 1:
                return "room" + compares + number(0, 300);
            default:
                return "have " + name();
        }
    }

    private void options(StringBuilder text) {
        String[] words = {"from", "to", "soft", "fade"};
        int[] least = {0, 1, 0, 1};
        int[] greatest = {6, 60, 40, 60};
        int many = random.nextInt(3) == 0 ? 1 + upTo(2) : 0;
        int start = upTo(3);
        for (int k = 0; k < many; k++) {
            int o = random.nextInt(20) == 0 ? start : (start + k) % 4;
            text.append(blank()).append(words[o]).append(blank()).append(number(least[o], greatest[o]));
        }
    }

    private void spoil(StringBuilder text) {
        String[] bits = {"{", "}", ";", "<", ">", "12345", "9999", "side", "else", "again", "from", "X", "#",
            "namethatislong", " ", "0", "\t", "song 0 to 3 to 4;", "when", "have", "\u00ff", "7", "a"};
        int many = 1 + upTo(2);
        for (int k = 0; k < many && text.length() > 0; k++) {
            int at = upTo(text.length() - 1);
            switch (random.nextInt(3)) {
                case 0:
                    text.deleteCharAt(at);
                    break;
                case 1:
                    text.insert(at, bits[random.nextInt(bits.length)]);
                    break;
                default:
                    text.setLength(at);
                    break;
            }
        }
    }

    // ---- all calls

    private void anyCall(String name) {
        int side = about(0, 1);
        int n = side == 0 || side == 1 ? (int) ask("parts", side) : 5;
        switch (name) {
            case "tray":
                ask(name, about(0, 3), about(0, 3), about(0, 60));
                break;
            case "write":
                ask(name, about(0, 3), about(0, 20), random.nextBoolean() ? upTo(40) : random.nextLong());
                break;
            case "read":
                ask(name, about(0, 3), about(0, 20));
                break;
            case "pour":
                ask(name, about(0, 3), about(0, 10), about(0, 3), about(0, 10), about(0, 20));
                break;
            case "song":
                ask(name, about(0, 3), about(1, 60), about(0, 9));
                break;
            case "told":
                ask(name, about(0, 9), about(0, 2));
                break;
            case "rules":
                ask(name, about(1, 20), about(1, 20));
                break;
            case "lead":
                ask(name, side, about(1, 100));
                break;
            case "lay":
            case "lock":
            case "ring":
                ask(name, side, about(0, 9));
                break;
            case "level":
            case "place":
            case "placeBeside":
            case "tight":
                ask(name, side, about(0, Math.max(0, n - 1)));
                break;
            case "soften":
                ask(name, side, about(20, 40));
                break;
            case "most":
                ask(name, about(1, random.nextBoolean() ? 400 : 100));
                break;
            case "songAt":
                ask(name, side, about(0, 5));
                break;
            case "sideOf":
                ask(name, about(0, 9));
                break;
            case "inTime":
                ask(name, about(1, 8));
                break;
            case "click":
                ask(name, about(0, 99), about(0, 7));
                break;
            case "line":
            case "fault":
            case "error":
                ask(name, about(0, 2));
                break;
            case "knock":
                ask(name, about(0, 10000), about(-400, 400));
                break;
            case "heard":
            case "songHeard":
                ask(name, side, about(0, random.nextBoolean() ? 20000 : 400));
                break;
            case "feed":
                ask(name, random.nextInt(), random.nextInt(), 0, -1, random.nextInt());
                break;
            case "sheet":
                ask(name, about(0, 40));
                break;
            case "mark":
                ask(name, about(0, 3), about(0, 1));
                break;
            case "press":
                if (random.nextInt(4) == 0) {
                    ask(name);
                }
                break;
            case "order":
            case "clean":
            case "longest":
            case "cover":
            case "still":
            case "roomBeside":
            case "run":
                ask(name);
                break;
            default:
                ask(name, side);
                break;
        }
    }

    private long call(String name, long... v) {
        int[] a = new int[v.length];
        for (int k = 0; k < v.length; k++) {
            a[k] = (int) v[k];
        }
        DiscCutter x = real;
        switch (name) {
            case "tray": return x.tray(a[0], a[1], a[2]) ? 1 : 0;
            case "write": return x.write(a[0], a[1], v[2]) ? 1 : 0;
            case "read": return x.read(a[0], a[1]);
            case "pour": return x.pour(a[0], a[1], a[2], a[3], a[4]) ? 1 : 0;
            case "song": return x.song(a[0], a[1], a[2]);
            case "told": return x.told(a[0], a[1]);
            case "rules": return x.rules(a[0], a[1]) ? 1 : 0;
            case "anew": return x.anew(a[0]) ? 1 : 0;
            case "lead": return x.lead(a[0], a[1]) ? 1 : 0;
            case "lay": return x.lay(a[0], a[1]) ? 1 : 0;
            case "parts": return x.parts(a[0]);
            case "level": return x.level(a[0], a[1]);
            case "place": return x.place(a[0], a[1]);
            case "room": return x.room(a[0]);
            case "tight": return x.tight(a[0], a[1]);
            case "cannot": return x.cannot(a[0]);
            case "softer": return x.softer(a[0]);
            case "soften": return x.soften(a[0], a[1]);
            case "most": return x.most(a[0]) ? 1 : 0;
            case "order": return x.order();
            case "sideOf": return x.sideOf(a[0]);
            case "songAt": return x.songAt(a[0], a[1]);
            case "press": return x.press() ? 1 : 0;
            case "ring": return x.ring(a[0], a[1]);
            case "inTime": return x.inTime(a[0]);
            case "click": return x.click(a[0], a[1]) ? 1 : 0;
            case "clean": return x.clean() ? 1 : 0;
            case "longest": return x.longest();
            case "line": return x.line(a[0]);
            case "cover": return x.cover();
            case "lock": return x.lock(a[0], a[1]) ? 1 : 0;
            case "locked": return x.locked(a[0]);
            case "knock": return x.knock(a[0], a[1]) ? 1 : 0;
            case "still": return x.still() ? 1 : 0;
            case "heard": return x.heard(a[0], a[1]);
            case "songHeard": return x.songHeard(a[0], a[1]);
            case "missed": return x.missed(a[0]);
            case "placeBeside": return x.placeBeside(a[0], a[1]);
            case "roomBeside": return x.roomBeside();
            case "feed": return x.feed(a[0], a[1], a[2], a[3], a[4]);
            case "sheet": return x.sheet(a[0]);
            case "fault": return x.fault(a[0]);
            case "run": return x.run();
            case "error": return x.error(a[0]);
            case "mark": return x.mark(a[0], a[1]);
            default: throw new IllegalArgumentException(name);
        }
    }
}
