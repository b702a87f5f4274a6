import java.util.ArrayList;
import java.util.Arrays;
import java.util.LinkedHashMap;
import java.util.List;
import java.util.Map;
import java.util.TreeMap;
import java.util.regex.Matcher;
import java.util.regex.Pattern;

/**
 * The document once more, in the most literal way there is: bounds are asked again until none
 * lifts anything, orders and covers are tried one by one, the needle goes tick by tick.
 */
final class NaiveCutter {
    private static final class Refused extends RuntimeException {
        private static final long serialVersionUID = 1L;
        final int kind;
        final int at;

        Refused(int kind, int at) {
            super(null, null, false, false);
            this.kind = kind;
            this.at = at;
        }
    }

    private static final class Part {
        int level;
        final int song;

        Part(int level, int song) {
            this.level = level;
            this.song = song;
        }
    }

    private static final class Node {
        String word;
        int at;
        int number;
        String name;
        String test;
        String compares;
        final Map<String, Integer> options = new TreeMap<>();
        List<Node> inside = new ArrayList<>();
        List<Node> otherwise = new ArrayList<>();
    }

    int status = 0;
    private final long[][] trays = new long[4][];
    private final int[] sorts = new int[4];
    private final List<int[]> songs = new ArrayList<>();
    private final List<Integer> highs = new ArrayList<>();
    private int land = 4;
    private int feed = 8;
    private List<List<Part>> sides = List.of(new ArrayList<>(), new ArrayList<>());
    private int[] locks = {-1, -1};
    private int most = 200;
    private final List<int[]> clicks = new ArrayList<>();
    private final TreeMap<Integer, Integer> knocks = new TreeMap<>();
    private StringBuilder tape = new StringBuilder();
    private List<Node> sheet = null;
    private List<String> names = new ArrayList<>();
    private Map<String, int[]> marks = new LinkedHashMap<>();
    private int fault = -1;
    private int faultAt = -1;
    private int error = -1;
    private int errorAt = -1;

    private static void need(boolean good, int otherwise) {
        if (!good) {
            throw new Refused(otherwise, -1);
        }
    }

    private static boolean in(long v, long a, long b) {
        return a <= v && v <= b;
    }

    /** One call by its number in the face; a boolean counts 1 or 0 as in the shared tests. */
    long call(String name, long... v) {
        int[] a = new int[v.length];
        for (int k = 0; k < v.length; k++) {
            a[k] = (int) v[k];
        }
        switch (name) {
            case "feed":
                return feed(a);
            case "fault":
                return a[0] == 0 ? fault : a[0] == 1 ? faultAt : -1;
            case "error":
                return a[0] == 0 ? error : a[0] == 1 ? errorAt : -1;
            default:
                break;
        }
        boolean truth = List.of("tray", "write", "pour", "rules", "anew", "lead", "lay", "most",
            "press", "click", "clean", "lock", "knock", "still").contains(name);
        try {
            long answer = answer(name, a, v);
            status = 0;
            return answer;
        } catch (Refused r) {
            status = r.kind;
            return truth ? 0 : -1;
        }
    }

    private long feed(int[] a) {
        if (tape.length() + 20 > 600) {
            return -1;
        }
        for (int four : a) {
            for (int shift = 24; shift >= 0; shift -= 8) {
                tape.append((char) ((four >>> shift) & 255));
            }
        }
        return tape.length();
    }

    private long answer(String name, int[] a, long[] v) {
        switch (name) {
            case "tray":
                need(in(a[0], 0, 3) && in(a[1], 0, 3) && in(a[2], 0, 60), 1);
                trays[a[0]] = new long[a[2]];
                sorts[a[0]] = a[1];
                return 1;
            case "write":
                needNumber(a);
                trays[a[0]][a[1]] = cut(sorts[a[0]], v[2]);
                return 1;
            case "read":
                needNumber(a);
                return trays[a[0]][a[1]];
            case "pour":
                return pour(a);
            case "song":
                return song(a);
            case "told":
                need(in(a[0], 0, songs.size() - 1) && in(a[1], 0, 2), 1);
                return a[1] == 0 ? songs.get(a[0]).length : a[1] == 1 ? highs.get(a[0])
                    : Arrays.stream(songs.get(a[0])).max().getAsInt();
            case "rules":
                need(in(a[0], 1, 20) && in(a[1], 1, 20), 1);
                land = a[0];
                feed = a[1];
                return 1;
            default:
                return answerOfSides(name, a);
        }
    }

    private void needNumber(int[] a) {
        need(in(a[0], 0, 3), 1);
        need(trays[a[0]] != null, 2);
        need(in(a[1], 0, trays[a[0]].length - 1), 3);
    }

    private static long cut(int sort, long v) {
        int off = 64 - (8 << sort);
        return v << off >> off;
    }

    private long pour(int[] a) {
        need(in(a[0], 0, 3) && in(a[2], 0, 3) && a[1] >= 0 && a[3] >= 0 && a[4] >= 0, 1);
        need(trays[a[0]] != null && trays[a[2]] != null, 2);
        need(sorts[a[0]] == sorts[a[2]], 8);
        need((long) a[1] + a[4] <= trays[a[0]].length && (long) a[3] + a[4] <= trays[a[2]].length, 3);
        long[] were = trays[a[0]].clone();
        for (int k = 0; k < a[4]; k++) {
            trays[a[2]][a[3] + k] = were[a[1] + k];
        }
        return 1;
    }

    private long song(int[] a) {
        need(in(a[0], 0, 3) && in(a[1], 1, 60) && in(a[2], 0, 9), 1);
        need(trays[a[0]] != null, 2);
        need(trays[a[0]].length >= a[1], 3);
        int[] levels = new int[a[1]];
        for (int k = 0; k < a[1]; k++) {
            need(in(trays[a[0]][k], 0, 40), 1);
            levels[k] = (int) trays[a[0]][k];
        }
        need(songs.size() < 10, 4);
        songs.add(levels);
        highs.add(a[2]);
        return songs.size() - 1;
    }

    private void needSide(int side) {
        need(in(side, 0, 1), 1);
    }

    private void needPart(int side, int part) {
        needSide(side);
        need(in(part, 0, sides.get(side).size() - 1), 1);
    }

    private void needSong(int song, int parts) {
        need(in(song, 0, songs.size() - 1), 1);
        need(songs.get(song).length >= parts, 1);
    }

    private void layAll(int side, int song) {
        for (int level : songs.get(song)) {
            sides.get(side).add(new Part(level, song));
        }
    }

    private long answerOfSides(String name, int[] a) {
        switch (name) {
            case "anew":
                needSide(a[0]);
                sides.get(a[0]).clear();
                locks[a[0]] = -1;
                return 1;
            case "lead":
                needSide(a[0]);
                need(in(a[1], 1, 100), 1);
                need(sides.get(a[0]).size() + a[1] <= 400, 4);
                need(locks[a[0]] == -1, 7);
                for (int k = 0; k < a[1]; k++) {
                    sides.get(a[0]).add(new Part(0, -1));
                }
                return 1;
            case "lay":
                needSide(a[0]);
                needSong(a[1], 0);
                need(sides.get(a[0]).size() + songs.get(a[1]).length <= 400, 4);
                need(locks[a[0]] == -1, 7);
                layAll(a[0], a[1]);
                return 1;
            case "parts":
                needSide(a[0]);
                return sides.get(a[0]).size();
            case "level":
                needPart(a[0], a[1]);
                return sides.get(a[0]).get(a[1]).level;
            case "place":
                needPart(a[0], a[1]);
                return needPlaces(a[0])[a[1]];
            case "room":
                needSide(a[0]);
                return roomOf(a[0]);
            case "tight":
                return tight(a);
            case "cannot":
                needSide(a[0]);
                need(firstClash(a[0], 40) >= 0, 6);
                return firstClash(a[0], 40);
            case "softer":
                needSide(a[0]);
                for (int s = 0; s <= 40; s++) {
                    if (firstClash(a[0], 40 - s) < 0) {
                        return s;
                    }
                }
                throw new Refused(6, -1);
            case "soften":
                return soften(a);
            default:
                return answerOfOrder(name, a);
        }
    }

    private long soften(int[] a) {
        needSide(a[0]);
        need(in(a[1], 0, 40), 1);
        int many = 0;
        for (Part p : sides.get(a[0])) {
            if (p.level > a[1]) {
                p.level = a[1];
                many++;
            }
        }
        return many;
    }

    private long tight(int[] a) {
        needSide(a[0]);
        int[] places = needPlaces(a[0]);
        List<Integer> found = new ArrayList<>();
        List<Part> row = sides.get(a[0]);
        for (int k = 8; k < row.size(); k++) {
            if (places[k] - places[k - 8] == row.get(k).level + row.get(k - 8).level + land) {
                found.add(k);
            }
        }
        need(in(a[1], 0, found.size() - 1), 6);
        return found.get(a[1]);
    }

    private int firstClash(int side, int cap) {
        List<Part> row = sides.get(side);
        for (int k = 8; k < row.size(); k++) {
            if (Math.min(cap, row.get(k).level) + Math.min(cap, row.get(k - 8).level) + land > 8 * feed) {
                return k;
            }
        }
        return -1;
    }

    /** LEAST numbers under bounds {from, to, more}: to is from's and more, at least; null if none. */
    private static int[] least(int many, List<int[]> bounds) {
        int[] at = new int[many];
        for (int round = 0; round <= many + 1; round++) {
            boolean lifted = false;
            for (int[] b : bounds) {
                if (at[b[1]] < at[b[0]] + b[2]) {
                    at[b[1]] = at[b[0]] + b[2];
                    lifted = true;
                }
            }
            if (!lifted) {
                return at;
            }
        }
        return null;
    }

    private void boundsOf(List<Part> row, int base, List<int[]> bounds) {
        for (int k = 0; k < row.size(); k++) {
            if (k > 0) {
                bounds.add(new int[] {base + k - 1, base + k, 0});
                bounds.add(new int[] {base + k, base + k - 1, -feed});
            }
            if (k >= 8) {
                bounds.add(new int[] {base + k - 8, base + k, row.get(k).level + row.get(k - 8).level + land});
            }
        }
    }

    private int[] needPlaces(int side) {
        List<int[]> bounds = new ArrayList<>();
        boundsOf(sides.get(side), 0, bounds);
        int[] at = least(sides.get(side).size(), bounds);
        need(at != null, 5);
        return at;
    }

    private int[] needBeside() {
        List<Part> one = sides.get(0);
        List<Part> two = sides.get(1);
        int n = one.size();
        List<int[]> bounds = new ArrayList<>();
        boundsOf(one, 0, bounds);
        boundsOf(two, n, bounds);
        for (int k = 0; k < two.size() && k < n; k++) {
            bounds.add(new int[] {k, n + k, one.get(k).level + two.get(k).level + land});
        }
        for (int k = 8; k < n && k - 8 < two.size(); k++) {
            bounds.add(new int[] {n + k - 8, k, one.get(k).level + two.get(k - 8).level + land});
        }
        int[] at = least(n + two.size(), bounds);
        need(at != null, 5);
        return at;
    }

    private int roomOf(int side) {
        int[] at = needPlaces(side);
        List<Part> row = sides.get(side);
        return row.isEmpty() ? 0 : at[row.size() - 1] + row.get(row.size() - 1).level;
    }

    private int ringOf(int side, int song) {
        int[] at = needPlaces(side);
        List<Part> row = sides.get(side);
        int n = row.size();
        for (int place = at[n - 1];; place++) {
            boolean good = true;
            for (int k = 0; k < 8; k++) {
                int ahead = n + k - 8;
                good &= ahead < 0 || place - at[ahead] >= row.get(ahead).level + songs.get(song)[k] + land;
            }
            if (good) {
                return place;
            }
        }
    }

    private int[] bestSides;
    private List<List<Integer>> bestRows;
    private int bestLoss;
    private int bestFor = -1;
    private int bestMost = -1;

    /** Of a set the least LOSS of what isn't laid yet; and behind it the first way to reach it. */
    private int lossFrom(int set, int laid, int ahead, int[] memo) {
        if (set == laid) {
            return 0;
        }
        if (memo[laid] >= 0) {
            return memo[laid];
        }
        int best = Integer.MAX_VALUE;
        for (int s = 0; s < songs.size(); s++) {
            if ((set >> s & 1) == 1 && (laid >> s & 1) == 0) {
                int rest = lossFrom(set, laid | 1 << s, ahead + songs.get(s).length, memo);
                best = Math.min(best, highs.get(s) * ahead + rest);
            }
        }
        memo[laid] = best;
        return best;
    }

    private List<Integer> firstRow(int set, int[] memo) {
        List<Integer> row = new ArrayList<>();
        int laid = 0;
        int ahead = 0;
        while (laid != set) {
            int due = lossFrom(set, laid, ahead, memo);
            for (int s = 0; s < songs.size(); s++) {
                if ((set >> s & 1) == 1 && (laid >> s & 1) == 0) {
                    int length = songs.get(s).length;
                    int rest = lossFrom(set, laid | 1 << s, ahead + length, memo);
                    if (highs.get(s) * ahead + rest == due) {
                        row.add(s);
                        laid |= 1 << s;
                        ahead += length;
                        break;
                    }
                }
            }
        }
        return row;
    }

    private void needBest() {
        if (bestFor == songs.size() && bestMost == most) {
            need(bestSides != null, 5);
            return;
        }
        bestFor = songs.size();
        bestMost = most;
        bestSides = null;
        int n = songs.size();
        for (int mask = 0; mask < 1 << n; mask++) {
            int[] of = new int[n];
            int[] parts = {0, 0};
            int[] sets = {0, 0};
            for (int s = 0; s < n; s++) {
                of[s] = mask >> s & 1;
                parts[of[s]] += songs.get(s).length;
                sets[of[s]] |= 1 << s;
            }
            if (parts[0] > most || parts[1] > most) {
                continue;
            }
            int[][] memos = {new int[1 << n], new int[1 << n]};
            Arrays.fill(memos[0], -1);
            Arrays.fill(memos[1], -1);
            int loss = lossFrom(sets[0], 0, 0, memos[0]) + lossFrom(sets[1], 0, 0, memos[1]);
            if (bestSides == null || loss < bestLoss
                || loss == bestLoss && Arrays.compare(of, bestSides) < 0) {
                bestSides = of;
                bestLoss = loss;
                bestRows = List.of(firstRow(sets[0], memos[0]), firstRow(sets[1], memos[1]));
            }
        }
        need(bestSides != null, 5);
    }

    private long answerOfOrder(String name, int[] a) {
        switch (name) {
            case "most":
                need(in(a[0], 1, 400), 1);
                most = a[0];
                return 1;
            case "order":
                needBest();
                return bestLoss;
            case "sideOf":
                needSong(a[0], 0);
                needBest();
                return bestSides[a[0]];
            case "songAt":
                needSide(a[0]);
                needBest();
                need(in(a[1], 0, bestRows.get(a[0]).size() - 1), 6);
                return bestRows.get(a[0]).get(a[1]);
            case "press":
                needBest();
                for (int side = 0; side < 2; side++) {
                    sides.get(side).clear();
                    locks[side] = -1;
                    for (int s : bestRows.get(side)) {
                        layAll(side, s);
                    }
                }
                return 1;
            case "ring":
                needSide(a[0]);
                needSong(a[1], 8);
                needPlaces(a[0]);
                need(!sides.get(a[0]).isEmpty(), 6);
                return ringOf(a[0], a[1]);
            case "inTime":
                need(in(a[0], 1, 8), 1);
                return a[0] == 1 || a[0] == 2 || a[0] == 4 || a[0] == 8 ? 1 : 0;
            default:
                return answerOfClicks(name, a);
        }
    }

    private boolean isClick(int turn, int part) {
        for (int[] c : clicks) {
            if (c[0] == turn && c[1] == part) {
                return true;
            }
        }
        return false;
    }

    private int lengthOf(int turn, int part, int slant) {
        int n = 0;
        while (isClick(turn + n, Math.floorMod(part + n * slant, 8))) {
            n++;
        }
        return n;
    }

    /** {length, turn, part, slant}, turn by turn, so that the first one of a length stays. */
    private int[] longestLine() {
        int[] best = {0, 0, 0, 0};
        for (int turn = 0; turn < 100; turn++) {
            for (int part = 0; part < 8; part++) {
                for (int slant = -1; slant <= 1; slant++) {
                    int n = lengthOf(turn, part, slant);
                    if (n > best[0]) {
                        best = new int[] {n, turn, part, slant};
                    }
                }
            }
        }
        return best;
    }

    private int fewestLines() {
        int n = clicks.size();
        List<Integer> lines = new ArrayList<>();
        for (int[] c : clicks) {
            for (int slant = -1; slant <= 1; slant++) {
                int length = lengthOf(c[0], c[1], slant);
                int set = 0;
                for (int k = 0; k < length; k++) {
                    for (int i = 0; i < n; i++) {
                        if (clicks.get(i)[0] == c[0] + k
                            && clicks.get(i)[1] == Math.floorMod(c[1] + k * slant, 8)) {
                            set |= 1 << i;
                        }
                    }
                }
                lines.add(set);
            }
        }
        int[] fewest = new int[1 << n];
        for (int set = 1; set < 1 << n; set++) {
            fewest[set] = 99;
            for (int line : lines) {
                if ((line & set) != 0) {
                    fewest[set] = Math.min(fewest[set], 1 + fewest[set & ~line]);
                }
            }
        }
        return fewest[(1 << n) - 1];
    }

    private long answerOfClicks(String name, int[] a) {
        switch (name) {
            case "click":
                need(in(a[0], 0, 99) && in(a[1], 0, 7), 1);
                need(clicks.size() < 16, 4);
                need(!isClick(a[0], a[1]), 7);
                clicks.add(new int[] {a[0], a[1]});
                return 1;
            case "clean":
                clicks.clear();
                return 1;
            case "longest":
                need(!clicks.isEmpty(), 6);
                return longestLine()[0];
            case "line":
                need(in(a[0], 0, 2), 1);
                need(!clicks.isEmpty(), 6);
                return longestLine()[1 + a[0]];
            case "cover":
                return fewestLines();
            default:
                return answerOfNeedle(name, a);
        }
    }

    /** PARTS at the ticks 0 to the last one, -1 behind the END. */
    private int[] way(int side, int last) {
        int[] at = needPlaces(side);
        List<Part> row = sides.get(side);
        int n = row.size();
        int all = locks[side] >= 0 ? n + 8 : n;
        int[] places = Arrays.copyOf(at, all);
        for (int k = n; k < all; k++) {
            places[k] = ringOf(side, locks[side]);
        }
        int[] heard = new int[last + 1];
        int p = n == 0 ? -1 : 0;
        for (int tick = 0; tick <= last; tick++) {
            heard[tick] = p;
            if (p < 0) {
                continue;
            }
            if (knocks.containsKey(tick)) {
                int wanted = places[p] + knocks.get(tick);
                int best = -1;
                for (int q = 0; q < all; q++) {
                    if (Math.floorMod(q - p, 8) == 0
                        && (best < 0 || Math.abs(places[q] - wanted) < Math.abs(places[best] - wanted))) {
                        best = q;
                    }
                }
                p = best;
            }
            p++;
            if (p == all) {
                p = locks[side] >= 0 ? n : -1;
            }
        }
        return heard;
    }

    private long answerOfNeedle(String name, int[] a) {
        switch (name) {
            case "lock":
                needSide(a[0]);
                needSong(a[1], 8);
                need(!sides.get(a[0]).isEmpty(), 6);
                need(locks[a[0]] == -1, 7);
                locks[a[0]] = a[1];
                return 1;
            case "locked":
                needSide(a[0]);
                need(locks[a[0]] >= 0, 6);
                return locks[a[0]];
            case "knock":
                need(in(a[0], 0, 10000) && in(a[1], -400, 400), 1);
                need(knocks.size() < 16, 4);
                need(!knocks.containsKey(a[0]), 7);
                knocks.put(a[0], a[1]);
                return 1;
            case "still":
                knocks.clear();
                return 1;
            case "heard":
            case "songHeard":
                needSide(a[0]);
                need(in(a[1], 0, 20000), 1);
                int part = way(a[0], a[1])[a[1]];
                need(part >= 0, 6);
                if (name.equals("heard")) {
                    return part;
                }
                return part < sides.get(a[0]).size() ? sides.get(a[0]).get(part).song : locks[a[0]];
            case "missed":
                needSide(a[0]);
                int[] heard = way(a[0], 11000);
                boolean[] seen = new boolean[500];
                for (int p : heard) {
                    if (p >= 0) {
                        seen[p] = true;
                    }
                }
                int many = 0;
                for (int k = 0; k < sides.get(a[0]).size(); k++) {
                    many += seen[k] ? 0 : 1;
                }
                return many;
            default:
                return answerOfSheets(name, a);
        }
    }

    private long answerOfSheets(String name, int[] a) {
        switch (name) {
            case "placeBeside":
                needPart(a[0], a[1]);
                return needBeside()[a[0] * sides.get(0).size() + a[1]];
            case "roomBeside":
                int[] at = needBeside();
                int room = 0;
                int base = 0;
                for (List<Part> row : sides) {
                    if (!row.isEmpty()) {
                        room = Math.max(room, at[base + row.size() - 1] + row.get(row.size() - 1).level);
                    }
                    base += row.size();
                }
                return room;
            case "sheet":
                return sheet(a[0]);
            case "run":
                return run();
            case "mark":
                need(a[0] >= 0 && in(a[1], 0, 1), 1);
                List<int[]> there = new ArrayList<>();
                for (String one : names) {
                    if (marks.containsKey(one)) {
                        there.add(marks.get(one));
                    }
                }
                need(a[0] < there.size(), 6);
                return there.get(a[0])[a[1]];
            default:
                throw new IllegalArgumentException(name);
        }
    }

    // ---- SHEETS

    private static final Pattern TOKEN = Pattern.compile("[a-z]+|[0-9]+|[{};<>]");
    private String text;
    private int pos;
    private int stepsRead;
    private List<String> namesRead;
    private int done;
    private int current;

    private int skip() {
        int p = pos;
        while (p < text.length() && (text.charAt(p) == '\n' || text.charAt(p) == ' ')) {
            p++;
        }
        return p;
    }

    /** The next TOKEN without taking it, "" at the end. */
    private String peek() {
        int p = skip();
        if (p == text.length()) {
            return "";
        }
        Matcher m = TOKEN.matcher(text).region(p, text.length());
        if (!m.lookingAt() || m.group().matches("[0-9]{5,}")) {
            throw new Refused(1, p);
        }
        return m.group();
    }

    private String take(String wanted) {
        String t = peek();
        int p = skip();
        if (!t.matches(wanted)) {
            throw new Refused(2, p);
        }
        pos = p + t.length();
        return t;
    }

    private int takeNumber(int a, int b) {
        int p0 = skip();
        int n = Integer.parseInt(take("[0-9]+"));
        if (!in(n, a, b)) {
            throw new Refused(4, p0);
        }
        return n;
    }

    private String takeName() {
        int p0 = skip();
        String n = take("[a-z]{1,8}");
        if (!namesRead.contains(n)) {
            if (namesRead.size() == 8) {
                throw new Refused(3, p0);
            }
            namesRead.add(n);
        }
        return n;
    }

    private List<Node> takeSteps(int around) {
        List<Node> nodes = new ArrayList<>();
        while (!peek().isEmpty() && !(around > 0 && peek().equals("}"))) {
            Node n = new Node();
            n.at = skip();
            n.word = take("side|lead|song|lock|mark|again|when");
            if (++stepsRead > 60 || around >= 4) {
                throw new Refused(3, n.at);
            }
            takeRest(n, around);
            nodes.add(n);
        }
        return nodes;
    }

    private List<Node> takeBraces(int around) {
        take("\\{");
        List<Node> nodes = takeSteps(around);
        take("\\}");
        return nodes;
    }

    private void takeRest(Node n, int around) {
        switch (n.word) {
            case "side":
                n.number = takeNumber(0, 1);
                break;
            case "lead":
                n.number = takeNumber(1, 100);
                break;
            case "lock":
                n.number = takeNumber(0, 9);
                break;
            case "mark":
                n.name = takeName();
                break;
            case "song":
                n.number = takeNumber(0, 9);
                takeOptions(n);
                break;
            case "again":
                n.number = takeNumber(0, 9);
                n.inside = takeBraces(around + 1);
                return;
            default:
                n.test = take("parts|room|have");
                if (n.test.equals("have")) {
                    n.name = takeName();
                } else {
                    n.compares = take("[<>]");
                    n.number = takeNumber(0, 9999);
                }
                n.inside = takeBraces(around + 1);
                if (startsElse()) {
                    take("else");
                    n.otherwise = takeBraces(around + 1);
                }
                return;
        }
        take(";");
    }

    private boolean startsElse() {
        Matcher m = Pattern.compile("else(?![a-z])").matcher(text).region(skip(), text.length());
        return m.lookingAt();
    }

    private void takeOptions(Node n) {
        while (!peek().equals(";")) {
            int p0 = skip();
            String o = take("from|to|soft|fade");
            if (n.options.containsKey(o)) {
                throw new Refused(5, p0);
            }
            int low = o.equals("to") || o.equals("fade") ? 1 : 0;
            int high = o.equals("from") ? 59 : o.equals("soft") ? 40 : 60;
            n.options.put(o, takeNumber(low, high));
        }
    }

    private long sheet(int n) {
        need(in(n, 0, tape.length()), 1);
        text = tape.substring(0, n);
        tape = new StringBuilder();
        pos = 0;
        stepsRead = 0;
        namesRead = new ArrayList<>();
        try {
            List<Node> nodes = takeSteps(0);
            sheet = nodes;
            names = namesRead;
            marks = new LinkedHashMap<>();
            fault = 0;
            faultAt = -1;
            return stepsRead;
        } catch (Refused r) {
            fault = r.kind;
            faultAt = r.at;
            throw new Refused(9, -1);
        }
    }

    private long run() {
        need(sheet != null, 9);
        List<List<Part>> oldSides = sides;
        int[] oldLocks = locks;
        Map<String, int[]> oldMarks = marks;
        sides = List.of(new ArrayList<>(), new ArrayList<>());
        locks = new int[] {-1, -1};
        marks = new LinkedHashMap<>();
        done = 0;
        current = 0;
        try {
            doAll(sheet);
            error = 0;
            errorAt = -1;
            return sides.get(0).size() + sides.get(1).size();
        } catch (Refused r) {
            sides = oldSides;
            locks = oldLocks;
            marks = oldMarks;
            error = r.kind;
            errorAt = r.at;
            throw new Refused(10, -1);
        }
    }

    private void doAll(List<Node> nodes) {
        for (Node n : nodes) {
            done++;
            int kind = errorOf(n);
            if (kind == 0 && done > 1000) {
                kind = 6;
            }
            if (kind != 0) {
                throw new Refused(kind, n.at);
            }
            doOne(n);
        }
    }

    private int errorOf(Node n) {
        boolean there = n.number < songs.size();
        int size = sides.get(current).size();
        switch (n.word) {
            case "lead":
                return locks[current] >= 0 ? 2 : size + n.number > 400 ? 3 : 0;
            case "song":
                if (!there) {
                    return 1;
                }
                int from = n.options.getOrDefault("from", 0);
                int to = n.options.getOrDefault("to", songs.get(n.number).length);
                if (from >= to || to > songs.get(n.number).length) {
                    return 1;
                }
                return locks[current] >= 0 ? 2 : size + to - from > 400 ? 3 : 0;
            case "lock":
                if (!there || songs.get(n.number).length < 8) {
                    return 1;
                }
                return locks[current] >= 0 ? 2 : size == 0 ? 5 : 0;
            case "when":
                return n.test.equals("room") && firstClash(current, 40) >= 0 ? 4 : 0;
            default:
                return 0;
        }
    }

    private void doOne(Node n) {
        List<Part> row = sides.get(current);
        switch (n.word) {
            case "side":
                current = n.number;
                break;
            case "lead":
                for (int k = 0; k < n.number; k++) {
                    row.add(new Part(0, -1));
                }
                break;
            case "song":
                int[] levels = songs.get(n.number);
                int from = n.options.getOrDefault("from", 0);
                int to = n.options.getOrDefault("to", levels.length);
                List<Part> laid = new ArrayList<>();
                for (int k = from; k < to; k++) {
                    laid.add(new Part(Math.min(levels[k], n.options.getOrDefault("soft", 40)), n.number));
                }
                int fade = n.options.getOrDefault("fade", 0);
                for (int k = 1; k <= fade && k <= laid.size(); k++) {
                    Part p = laid.get(laid.size() - k);
                    p.level = p.level * k / (fade + 1);
                }
                row.addAll(laid);
                break;
            case "lock":
                locks[current] = n.number;
                break;
            case "mark":
                marks.put(n.name, new int[] {current, row.size()});
                break;
            case "again":
                for (int k = 0; k < n.number; k++) {
                    doAll(n.inside);
                }
                break;
            default:
                int measured = n.test.equals("parts") ? row.size() : n.test.equals("room") ? roomOf(current) : 0;
                boolean holds = n.test.equals("have") ? marks.containsKey(n.name)
                    : n.compares.equals("<") ? measured < n.number : measured > n.number;
                doAll(holds ? n.inside : n.otherwise);
                break;
        }
    }
}
