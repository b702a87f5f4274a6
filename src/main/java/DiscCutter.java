import java.util.Arrays;

/** A cutting room for discs; ../shared/DOC.md numbers what each call promises. */
public final class DiscCutter {
    public static final int NONE = -1;

    private static final int FINE = 0;
    private static final int WRONG_NUMBER = 1;
    private static final int TRAY_MISSING = 2;
    private static final int NO_SUCH_PLACE = 3;
    private static final int ONE_TOO_MANY = 4;
    private static final int CANNOT_BE = 5;
    private static final int NONE_SUCH = 6;
    private static final int THERE_ALREADY = 7;
    private static final int UNLIKE_SORTS = 8;
    private static final int NO_SHEET = 9;
    private static final int RUN_ERROR = 10;

    private static final int TURN = 8;
    private static final int TRAYS = 4;
    private static final int TRAY_LENGTH = 60;
    private static final int MOST_SONGS = 10;
    private static final int SONG_LENGTH = 60;
    private static final int MOST_LEVEL = 40;
    private static final int MOST_HIGH = 9;
    private static final int MOST_RULE = 20;
    private static final int SIDES = 2;
    private static final int SIDE_LENGTH = 400;
    private static final int MOST_LEAD = 100;
    private static final int MOST_CLICKS = 16;
    private static final int CLICK_TURNS = 100;
    private static final int MOST_KNOCKS = 16;
    private static final int LAST_KNOCK_TICK = 10000;
    private static final int MOST_PUSH = 400;
    private static final int LAST_TICK = 20000;
    private static final int TAPE_LENGTH = 600;
    private static final int FED_BYTES = 20;
    private static final int MOST_STEPS = 60;
    private static final int MOST_DEPTH = 4;
    private static final int MOST_NAMES = 8;
    private static final int NAME_LENGTH = 8;
    private static final int MOST_DONE = 1000;

    private final Tray[] trays;
    private final Songs songs;
    private final Rules rules;
    private final Side[] sides;
    private final Beside beside;
    private final Order order;
    private final Clicks clicks;
    private final Needle needle;
    private final Runner runner;
    private final byte[] tape;
    private int tapeCount;
    private Sheet sheet;
    private Sheet spareSheet;
    private boolean hasSheet;
    private int faultKind;
    private int faultAt;
    private int mostParts;
    private int status;

    public DiscCutter() {
        trays = new Tray[TRAYS];
        for (int k = 0; k < TRAYS; k++) {
            trays[k] = new Tray();
        }
        songs = new Songs();
        rules = new Rules();
        sides = new Side[SIDES];
        for (int k = 0; k < SIDES; k++) {
            sides[k] = new Side(rules);
        }
        beside = new Beside(sides[0], sides[1], rules);
        order = new Order();
        clicks = new Clicks();
        needle = new Needle();
        runner = new Runner(songs, sides, rules);
        tape = new byte[TAPE_LENGTH];
        sheet = new Sheet();
        spareSheet = new Sheet();
        faultKind = NONE;
        faultAt = NONE;
        mostParts = 200;
        status = FINE;
    }

    public int status() {
        return status;
    }

    // ---- TRAYS

    public boolean tray(int tray, int sort, int many) {
        if (!isTray(tray) || !within(sort, 0, 3) || !within(many, 0, TRAY_LENGTH)) {
            return refuse(WRONG_NUMBER);
        }
        trays[tray].become(sort, many);
        return accept();
    }

    public boolean write(int tray, int place, long v) {
        int why = whyNoNumber(tray, place);
        if (why != FINE) {
            return refuse(why);
        }
        trays[tray].put(place, v);
        return accept();
    }

    public long read(int tray, int place) {
        int why = whyNoNumber(tray, place);
        if (why != FINE) {
            return giveNone(why);
        }
        status = FINE;
        return trays[tray].numbers[place];
    }

    public boolean pour(int from, int place, int to, int at, int many) {
        if (!isTray(from) || !isTray(to) || place < 0 || at < 0 || many < 0) {
            return refuse(WRONG_NUMBER);
        }
        Tray source = trays[from];
        Tray target = trays[to];
        if (source.isMissing() || target.isMissing()) {
            return refuse(TRAY_MISSING);
        }
        if (source.sort != target.sort) {
            return refuse(UNLIKE_SORTS);
        }
        if (!source.hasRow(place, many) || !target.hasRow(at, many)) {
            return refuse(NO_SUCH_PLACE);
        }
        System.arraycopy(source.numbers, place, target.numbers, at, many);
        return accept();
    }

    // ---- SONGS

    public int song(int tray, int many, int high) {
        if (!isTray(tray) || !within(many, 1, SONG_LENGTH) || !within(high, 0, MOST_HIGH)) {
            return giveNone(WRONG_NUMBER);
        }
        Tray source = trays[tray];
        if (source.isMissing()) {
            return giveNone(TRAY_MISSING);
        }
        if (!source.hasRow(0, many)) {
            return giveNone(NO_SUCH_PLACE);
        }
        if (!source.holdsLevels(many)) {
            return giveNone(WRONG_NUMBER);
        }
        if (songs.count >= MOST_SONGS) {
            return giveNone(ONE_TOO_MANY);
        }
        return give(songs.add(source, many, high));
    }

    public int told(int song, int what) {
        if (!songs.has(song)) {
            return giveNone(WRONG_NUMBER);
        }
        switch (what) {
            case 0:
                return give(songs.lengths[song]);
            case 1:
                return give(songs.highs[song]);
            case 2:
                return give(songs.loudest(song));
            default:
                return giveNone(WRONG_NUMBER);
        }
    }

    public boolean rules(int land, int feed) {
        if (!within(land, 1, MOST_RULE) || !within(feed, 1, MOST_RULE)) {
            return refuse(WRONG_NUMBER);
        }
        rules.change(land, feed);
        return accept();
    }

    // ---- SIDES

    public boolean anew(int side) {
        if (!isSide(side)) {
            return refuse(WRONG_NUMBER);
        }
        sides[side].empty();
        return accept();
    }

    public boolean lead(int side, int many) {
        if (!isSide(side) || !within(many, 1, MOST_LEAD)) {
            return refuse(WRONG_NUMBER);
        }
        int why = whyNotLaid(sides[side], many);
        if (why != FINE) {
            return refuse(why);
        }
        sides[side].appendLead(many);
        return accept();
    }

    public boolean lay(int side, int song) {
        if (!isSide(side) || !songs.has(song)) {
            return refuse(WRONG_NUMBER);
        }
        int why = whyNotLaid(sides[side], songs.lengths[song]);
        if (why != FINE) {
            return refuse(why);
        }
        sides[side].appendSong(songs, song);
        return accept();
    }

    public int parts(int side) {
        if (!isSide(side)) {
            return giveNone(WRONG_NUMBER);
        }
        return give(sides[side].count);
    }

    public int level(int side, int part) {
        if (!isPart(side, part)) {
            return giveNone(WRONG_NUMBER);
        }
        return give(sides[side].levels[part]);
    }

    public int place(int side, int part) {
        if (!isPart(side, part)) {
            return giveNone(WRONG_NUMBER);
        }
        if (!sides[side].settle()) {
            return giveNone(CANNOT_BE);
        }
        return give(sides[side].places[part]);
    }

    public int room(int side) {
        if (!isSide(side)) {
            return giveNone(WRONG_NUMBER);
        }
        if (!sides[side].settle()) {
            return giveNone(CANNOT_BE);
        }
        return give(sides[side].extent());
    }

    public int tight(int side, int k) {
        if (!isSide(side)) {
            return giveNone(WRONG_NUMBER);
        }
        if (!sides[side].settle()) {
            return giveNone(CANNOT_BE);
        }
        return giveIfAny(sides[side].tightPart(k));
    }

    public int cannot(int side) {
        if (!isSide(side)) {
            return giveNone(WRONG_NUMBER);
        }
        return giveIfAny(sides[side].firstTooNear(MOST_LEVEL));
    }

    public int softer(int side) {
        if (!isSide(side)) {
            return giveNone(WRONG_NUMBER);
        }
        return giveIfAny(sides[side].leastSoftening());
    }

    public int soften(int side, int level) {
        if (!isSide(side) || !within(level, 0, MOST_LEVEL)) {
            return giveNone(WRONG_NUMBER);
        }
        return give(sides[side].cap(level));
    }

    // ---- ORDER

    public boolean most(int parts) {
        if (!within(parts, 1, SIDE_LENGTH)) {
            return refuse(WRONG_NUMBER);
        }
        mostParts = parts;
        return accept();
    }

    public int order() {
        if (!order.find(songs, mostParts)) {
            return giveNone(CANNOT_BE);
        }
        return give(order.bestLoss);
    }

    public int sideOf(int song) {
        if (!songs.has(song)) {
            return giveNone(WRONG_NUMBER);
        }
        if (!order.find(songs, mostParts)) {
            return giveNone(CANNOT_BE);
        }
        return give(order.sideIn(order.bestCode, song));
    }

    public int songAt(int side, int k) {
        if (!isSide(side)) {
            return giveNone(WRONG_NUMBER);
        }
        if (!order.find(songs, mostParts)) {
            return giveNone(CANNOT_BE);
        }
        return giveIfAny(order.songOn(side, k));
    }

    public boolean press() {
        if (!order.find(songs, mostParts)) {
            return refuse(CANNOT_BE);
        }
        for (int side = 0; side < SIDES; side++) {
            sides[side].empty();
        }
        for (int k = 0; k < songs.count; k++) {
            int song = order.sequence[k];
            sides[order.sideIn(order.bestCode, song)].appendSong(songs, song);
        }
        return accept();
    }

    public int ring(int side, int song) {
        if (!isSide(side) || !songs.canRing(song)) {
            return giveNone(WRONG_NUMBER);
        }
        if (!sides[side].settle()) {
            return giveNone(CANNOT_BE);
        }
        return giveIfAny(sides[side].ringPlace(songs, song));
    }

    public int inTime(int beat) {
        if (!within(beat, 1, TURN)) {
            return giveNone(WRONG_NUMBER);
        }
        return give(TURN % beat == 0 ? 1 : 0);
    }

    // ---- CLICKS

    public boolean click(int turn, int part) {
        if (!within(turn, 0, CLICK_TURNS - 1) || !within(part, 0, TURN - 1)) {
            return refuse(WRONG_NUMBER);
        }
        if (clicks.count >= MOST_CLICKS) {
            return refuse(ONE_TOO_MANY);
        }
        if (clicks.find(turn, part) != NONE) {
            return refuse(THERE_ALREADY);
        }
        clicks.add(turn, part);
        return accept();
    }

    public boolean clean() {
        clicks.count = 0;
        return accept();
    }

    public int longest() {
        if (clicks.count == 0) {
            return giveNone(NONE_SUCH);
        }
        clicks.findLongest();
        return give(clicks.bestLength);
    }

    public int line(int what) {
        if (!within(what, 0, 2)) {
            return giveNone(WRONG_NUMBER);
        }
        if (clicks.count == 0) {
            return giveNone(NONE_SUCH);
        }
        clicks.findLongest();
        if (what == 0) {
            return give(clicks.bestTurn);
        }
        return give(what == 1 ? clicks.bestPart : clicks.bestSlant);
    }

    public int cover() {
        return give(clicks.fewestLines());
    }

    // ---- LOCKED SIDES, the NEEDLE

    public boolean lock(int side, int song) {
        if (!isSide(side) || !songs.canRing(song)) {
            return refuse(WRONG_NUMBER);
        }
        if (sides[side].count == 0) {
            return refuse(NONE_SUCH);
        }
        if (sides[side].isLocked()) {
            return refuse(THERE_ALREADY);
        }
        sides[side].lockedBy = song;
        return accept();
    }

    public int locked(int side) {
        if (!isSide(side)) {
            return giveNone(WRONG_NUMBER);
        }
        return giveIfAny(sides[side].lockedBy);
    }

    public boolean knock(int tick, int push) {
        if (!within(tick, 0, LAST_KNOCK_TICK) || !within(push, -MOST_PUSH, MOST_PUSH)) {
            return refuse(WRONG_NUMBER);
        }
        if (needle.count >= MOST_KNOCKS) {
            return refuse(ONE_TOO_MANY);
        }
        if (needle.isKnockedAt(tick)) {
            return refuse(THERE_ALREADY);
        }
        needle.add(tick, push);
        return accept();
    }

    public boolean still() {
        needle.count = 0;
        return accept();
    }

    public int heard(int side, int tick) {
        if (!isSide(side) || !within(tick, 0, LAST_TICK)) {
            return giveNone(WRONG_NUMBER);
        }
        if (!sides[side].settle()) {
            return giveNone(CANNOT_BE);
        }
        return giveIfAny(needle.follow(sides[side], songs, tick));
    }

    public int songHeard(int side, int tick) {
        int part = heard(side, tick);
        if (status != FINE) {
            return NONE;
        }
        return give(sides[side].songOf(part));
    }

    public int missed(int side) {
        if (!isSide(side)) {
            return giveNone(WRONG_NUMBER);
        }
        if (!sides[side].settle()) {
            return giveNone(CANNOT_BE);
        }
        return give(needle.countUnseen(sides[side], songs));
    }

    // ---- BESIDE

    public int placeBeside(int side, int part) {
        if (!isPart(side, part)) {
            return giveNone(WRONG_NUMBER);
        }
        if (!beside.settle()) {
            return giveNone(CANNOT_BE);
        }
        return give(beside.placeOf(side, part));
    }

    public int roomBeside() {
        if (!beside.settle()) {
            return giveNone(CANNOT_BE);
        }
        return give(Math.max(beside.extentOf(0), beside.extentOf(1)));
    }

    // ---- SHEETS

    public int feed(int a, int b, int c, int d, int e) {
        if (tapeCount > TAPE_LENGTH - FED_BYTES) {
            return NONE;
        }
        putOnTape(a);
        putOnTape(b);
        putOnTape(c);
        putOnTape(d);
        putOnTape(e);
        return tapeCount;
    }

    public int sheet(int n) {
        if (!within(n, 0, tapeCount)) {
            return giveNone(WRONG_NUMBER);
        }
        Sheet latest = spareSheet;
        latest.parse(tape, n);
        tapeCount = 0;
        faultKind = latest.faultKind;
        faultAt = latest.faultAt;
        if (faultKind != 0) {
            return giveNone(NO_SHEET);
        }
        spareSheet = sheet;
        sheet = latest;
        hasSheet = true;
        runner.forgetMarks();
        return give(latest.stepCount);
    }

    public int fault(int what) {
        if (what == 0) {
            return faultKind;
        }
        return what == 1 ? faultAt : NONE;
    }

    public int run() {
        if (!hasSheet) {
            return giveNone(NO_SHEET);
        }
        if (!runner.perform(sheet)) {
            return giveNone(RUN_ERROR);
        }
        return give(sides[0].count + sides[1].count);
    }

    public int error(int what) {
        if (what == 0) {
            return runner.errorKind;
        }
        return what == 1 ? runner.errorAt : NONE;
    }

    public int mark(int k, int what) {
        if (k < 0 || !within(what, 0, 1)) {
            return giveNone(WRONG_NUMBER);
        }
        int name = runner.nameOfMark(k);
        if (name == NONE) {
            return giveNone(NONE_SUCH);
        }
        return give(what == 0 ? runner.markSides[name] : runner.markParts[name]);
    }

    // ---- answers and what they are asked of

    private boolean accept() {
        status = FINE;
        return true;
    }

    private boolean refuse(int why) {
        status = why;
        return false;
    }

    private int give(int answer) {
        status = FINE;
        return answer;
    }

    private int giveNone(int why) {
        status = why;
        return NONE;
    }

    private int giveIfAny(int answer) {
        return answer == NONE ? giveNone(NONE_SUCH) : give(answer);
    }

    private static boolean within(int number, int least, int greatest) {
        return number >= least && number <= greatest;
    }

    private static void clear(boolean[] row) {
        for (int k = 0; k < row.length; k++) {
            row[k] = false;
        }
    }

    private boolean isTray(int tray) {
        return within(tray, 0, TRAYS - 1);
    }

    private boolean isSide(int side) {
        return within(side, 0, SIDES - 1);
    }

    private boolean isPart(int side, int part) {
        return isSide(side) && within(part, 0, sides[side].count - 1);
    }

    private int whyNoNumber(int tray, int place) {
        if (!isTray(tray)) {
            return WRONG_NUMBER;
        }
        if (trays[tray].isMissing()) {
            return TRAY_MISSING;
        }
        return within(place, 0, trays[tray].count - 1) ? FINE : NO_SUCH_PLACE;
    }

    private int whyNotLaid(Side side, int many) {
        if (!side.hasRoomFor(many)) {
            return ONE_TOO_MANY;
        }
        return side.isLocked() ? THERE_ALREADY : FINE;
    }

    private void putOnTape(int four) {
        for (int shift = 24; shift >= 0 && tapeCount < TAPE_LENGTH; shift -= 8) {
            tape[tapeCount] = (byte) (four >> shift);
            tapeCount++;
        }
    }

    /** A row of numbers, MISSING until it becomes one. */
    private static final class Tray {
        final long[] numbers;
        int sort;
        int count;

        Tray() {
            numbers = new long[TRAY_LENGTH];
            sort = NONE;
        }

        boolean isMissing() {
            return sort == NONE;
        }

        void become(int newSort, int many) {
            sort = newSort;
            count = many;
            Arrays.fill(numbers, 0L);
        }

        void put(int place, long v) {
            if (within(place, 0, count - 1)) {
                numbers[place] = cut(v);
            }
        }

        long cut(long v) {
            switch (sort) {
                case 0:
                    return (byte) v;
                case 1:
                    return (short) v;
                case 2:
                    return (int) v;
                default:
                    return v;
            }
        }

        boolean hasRow(int place, int many) {
            // a difference, since the sum of two great numbers would wrap
            return many <= count - place;
        }

        boolean holdsLevels(int many) {
            for (int k = 0; k < many && k < count; k++) {
                if (numbers[k] < 0 || numbers[k] > MOST_LEVEL) {
                    return false;
                }
            }
            return true;
        }
    }

    /** LAND and FEED; the changes are counted so that PLACES are sought again only behind one. */
    private static final class Rules {
        int land;
        int feed;
        int changes;

        Rules() {
            land = 4;
            feed = 8;
        }

        void change(int newLand, int newFeed) {
            land = newLand;
            feed = newFeed;
            changes++;
        }
    }

    /** All SONGS, the LEVELS of each in a stretch of one row. */
    private static final class Songs {
        final int[] levels;
        final int[] lengths;
        final int[] highs;
        int count;

        Songs() {
            levels = new int[MOST_SONGS * SONG_LENGTH];
            lengths = new int[MOST_SONGS];
            highs = new int[MOST_SONGS];
        }

        boolean has(int song) {
            return within(song, 0, count - 1);
        }

        boolean canRing(int song) {
            return has(song) && lengths[song] >= TURN;
        }

        int add(Tray source, int many, int high) {
            int song = count;
            for (int k = 0; k < many; k++) {
                levels[song * SONG_LENGTH + k] = (int) source.numbers[k];
            }
            lengths[song] = many;
            highs[song] = high;
            count++;
            return song;
        }

        int levelOf(int song, int part) {
            return levels[song * SONG_LENGTH + part];
        }

        int loudest(int song) {
            int greatest = 0;
            for (int k = 0; k < lengths[song]; k++) {
                greatest = Math.max(greatest, levelOf(song, k));
            }
            return greatest;
        }
    }

    /** One SIDE: its PARTS, by which SONG it is LOCKED, and its LEAST PLACES once they are settled. */
    private static final class Side {
        final Rules rules;
        final int[] levels;
        final int[] songs;
        final int[] places;
        int count;
        int lockedBy;
        int changes;
        private int settledChanges;
        private boolean canBeCut;

        Side(Rules itsRules) {
            rules = itsRules;
            levels = new int[SIDE_LENGTH];
            songs = new int[SIDE_LENGTH];
            places = new int[SIDE_LENGTH];
            lockedBy = NONE;
            settledChanges = NONE;
        }

        void empty() {
            count = 0;
            lockedBy = NONE;
            changes++;
        }

        boolean isLocked() {
            return lockedBy != NONE;
        }

        boolean hasRoomFor(int many) {
            return many <= SIDE_LENGTH - count;
        }

        void append(int level, int song) {
            if (count < SIDE_LENGTH) {
                levels[count] = level;
                songs[count] = song;
                count++;
                changes++;
            }
        }

        void appendLead(int many) {
            for (int k = 0; k < many; k++) {
                append(0, NONE);
            }
        }

        void appendSong(Songs all, int song) {
            for (int k = 0; k < all.lengths[song]; k++) {
                append(all.levelOf(song, k), song);
            }
        }

        void copyFrom(Side other) {
            count = other.count;
            lockedBy = other.lockedBy;
            System.arraycopy(other.levels, 0, levels, 0, count);
            System.arraycopy(other.songs, 0, songs, 0, count);
            changes++;
        }

        int cap(int level) {
            int many = 0;
            for (int k = 0; k < count; k++) {
                if (levels[k] > level) {
                    levels[k] = level;
                    many++;
                }
            }
            changes++;
            return many;
        }

        /** The first PART too loud for the one 8 ahead, were no LEVEL above the cap. */
        int firstTooNear(int cap) {
            int most = TURN * rules.feed - rules.land;
            for (int k = TURN; k < count; k++) {
                if (Math.min(levels[k], cap) + Math.min(levels[k - TURN], cap) > most) {
                    return k;
                }
            }
            return NONE;
        }

        int leastSoftening() {
            for (int s = 0; s <= MOST_LEVEL; s++) {
                if (firstTooNear(MOST_LEVEL - s) == NONE) {
                    return s;
                }
            }
            return NONE;
        }

        /** Whether it CAN be cut; its places are LEAST then. */
        boolean settle() {
            int now = changes + rules.changes;
            if (now != settledChanges) {
                settledChanges = now;
                canBeCut = firstTooNear(MOST_LEVEL) == NONE;
                if (canBeCut) {
                    layOut();
                }
            }
            return canBeCut;
        }

        /*
         * PARTS come one by one, and each lifts those ahead that the FEED would leave too far
         * behind. It lifts none further than 7 ahead, as the PART 8 ahead is near enough, so
         * none of the earlier bounds has to be looked at again.
         */
        private void layOut() {
            for (int k = 0; k < count; k++) {
                int least = k == 0 ? 0 : places[k - 1];
                if (k >= TURN) {
                    least = Math.max(least, placeBehind(k));
                }
                places[k] = least;
                for (int j = k - 1; j >= 0 && places[j] < places[j + 1] - rules.feed; j--) {
                    places[j] = places[j + 1] - rules.feed;
                }
            }
        }

        private int placeBehind(int part) {
            return places[part - TURN] + levels[part - TURN] + levels[part] + rules.land;
        }

        int extent() {
            return count == 0 ? 0 : places[count - 1] + levels[count - 1];
        }

        int tightPart(int k) {
            int before = 0;
            for (int part = TURN; part < count; part++) {
                if (places[part] == placeBehind(part)) {
                    if (before == k) {
                        return part;
                    }
                    before++;
                }
            }
            return NONE;
        }

        int ringPlace(Songs all, int song) {
            if (count == 0 || !all.canRing(song)) {
                return NONE;
            }
            int least = places[count - 1];
            for (int k = 0; k < TURN; k++) {
                int ahead = count + k - TURN;
                if (ahead >= 0) {
                    int behind = places[ahead] + levels[ahead] + all.levelOf(song, k) + rules.land;
                    least = Math.max(least, behind);
                }
            }
            return least;
        }

        int songOf(int part) {
            return within(part, 0, count - 1) ? songs[part] : lockedBy;
        }
    }

    /** LEAST PLACES of both SIDES on one face; PART p of row r is node r * SIDE_LENGTH + p. */
    private static final class Beside {
        private static final int NODES = SIDES * SIDE_LENGTH;

        // no way without a circle has more than NODES steps, and in the round of each step of
        // such ways a node waits once at most: NODES times NODES is never reached
        private static final int MOST_LIFTS = 1000000;

        private final Side[] rows;
        private final Rules rules;
        private final int[] places;
        private final int[] queue;
        private final boolean[] waits;
        private final int[] known;
        private int head;
        private int waiting;
        private int newest;
        private int settledChanges;
        private boolean canBe;

        Beside(Side first, Side second, Rules itsRules) {
            rows = new Side[SIDES];
            rows[0] = first;
            rows[1] = second;
            rules = itsRules;
            places = new int[NODES];
            queue = new int[NODES];
            waits = new boolean[NODES];
            known = new int[SIDES];
            settledChanges = NONE;
        }

        int placeOf(int row, int part) {
            return places[row * SIDE_LENGTH + part];
        }

        int extentOf(int row) {
            int count = rows[row].count;
            return count == 0 ? 0 : placeOf(row, count - 1) + rows[row].levels[count - 1];
        }

        boolean settle() {
            int now = rows[0].changes + rows[1].changes + rules.changes;
            if (now != settledChanges) {
                settledChanges = now;
                canBe = layOut();
            }
            return canBe;
        }

        private boolean layOut() {
            known[0] = 0;
            known[1] = 0;
            head = 0;
            waiting = 0;
            clear(waits);
            int longest = Math.max(rows[0].count, rows[1].count);
            for (int part = 0; part < longest; part++) {
                for (int row = 0; row < SIDES; row++) {
                    if (part < rows[row].count && !addNewest(row, part)) {
                        return false;
                    }
                }
            }
            return true;
        }

        /*
         * The PARTS so far lie LEAST. A new one is put where they ask for it, and then lifts
         * others. Should they ask it to rise in turn, they would lift one another for ever:
         * a circle that was not there ahead of it goes through it.
         */
        private boolean addNewest(int row, int part) {
            newest = row * SIDE_LENGTH + part;
            places[newest] = askedFor(row, part);
            known[row] = part + 1;
            enqueue(newest);
            for (int k = 0; k < MOST_LIFTS && waiting > 0; k++) {
                int node = dequeue();
                if (!passOn(node / SIDE_LENGTH, node % SIDE_LENGTH)) {
                    return false;
                }
            }
            return waiting == 0;
        }

        private int askedFor(int row, int part) {
            int least = part == 0 ? 0 : placeOf(row, part - 1);
            if (part >= TURN) {
                least = Math.max(least, edgeOf(row, part - TURN) + rows[row].levels[part]);
            }
            int across = row == 1 ? part : part - TURN;
            if (within(across, 0, known[1 - row] - 1)) {
                least = Math.max(least, edgeOf(1 - row, across) + rows[row].levels[part]);
            }
            return least;
        }

        /** Where the next groove's own swing may begin. */
        private int edgeOf(int row, int part) {
            return placeOf(row, part) + rows[row].levels[part] + rules.land;
        }

        private boolean passOn(int row, int part) {
            int at = placeOf(row, part);
            int edge = edgeOf(row, part);
            return lift(row, part - 1, at - rules.feed)
                && lift(row, part + 1, at)
                && liftBehind(row, part + TURN, edge)
                && liftBehind(1 - row, row == 0 ? part : part + TURN, edge);
        }

        private boolean liftBehind(int row, int part, int edge) {
            return !isKnown(row, part) || lift(row, part, edge + rows[row].levels[part]);
        }

        private boolean lift(int row, int part, int least) {
            if (!isKnown(row, part) || placeOf(row, part) >= least) {
                return true;
            }
            int node = row * SIDE_LENGTH + part;
            if (node == newest) {
                return false;
            }
            places[node] = least;
            if (!waits[node]) {
                enqueue(node);
            }
            return true;
        }

        private boolean isKnown(int row, int part) {
            return part >= 0 && part < known[row];
        }

        private void enqueue(int node) {
            queue[(head + waiting) % NODES] = node;
            waits[node] = true;
            waiting++;
        }

        private int dequeue() {
            int node = queue[head];
            head = (head + 1) % NODES;
            waits[node] = false;
            waiting--;
            return node;
        }
    }

    /** BEST ORDER, kept until there are more SONGS or MOST is another. */
    private static final class Order {
        final int[] sequence;
        int bestCode;
        int bestLoss;
        private int songCount;
        private int mostParts;

        Order() {
            sequence = new int[MOST_SONGS];
            songCount = NONE;
        }

        /** SONG 0 is the highest bit of a code, so that lesser codes come first among equals. */
        int sideIn(int code, int song) {
            return code >> (songCount - 1 - song) & 1;
        }

        int songOn(int side, int k) {
            int before = 0;
            for (int i = 0; i < songCount; i++) {
                if (sideIn(bestCode, sequence[i]) == side) {
                    if (before == k) {
                        return sequence[i];
                    }
                    before++;
                }
            }
            return NONE;
        }

        boolean find(Songs songs, int most) {
            if (songs.count != songCount || most != mostParts) {
                songCount = songs.count;
                mostParts = most;
                putInSequence(songs);
                chooseSides(songs);
            }
            return bestLoss != NONE;
        }

        /*
         * Changing two neighbours shows that a SIDE loses least just if HIGH by PARTS never
         * grows along it; so one sequence of all SONGS serves every way to part them.
         */
        private void putInSequence(Songs songs) {
            for (int song = 0; song < songCount; song++) {
                int k = song;
                for (; k > 0 && comesAhead(songs, song, sequence[k - 1]); k--) {
                    sequence[k] = sequence[k - 1];
                }
                sequence[k] = song;
            }
        }

        private static boolean comesAhead(Songs songs, int later, int earlier) {
            return songs.highs[later] * songs.lengths[earlier]
                > songs.highs[earlier] * songs.lengths[later];
        }

        private void chooseSides(Songs songs) {
            bestLoss = NONE;
            bestCode = 0;
            for (int code = 0; code < 1 << songCount; code++) {
                int loss = lossOf(songs, code);
                if (loss != NONE && (bestLoss == NONE || loss < bestLoss)) {
                    bestLoss = loss;
                    bestCode = code;
                }
            }
        }

        /** NONE if a SIDE has more PARTS than MOST. */
        private int lossOf(Songs songs, int code) {
            int loss = 0;
            int ahead0 = 0;
            int ahead1 = 0;
            for (int k = 0; k < songCount; k++) {
                int song = sequence[k];
                if (sideIn(code, song) == 0) {
                    loss += songs.highs[song] * ahead0;
                    ahead0 += songs.lengths[song];
                } else {
                    loss += songs.highs[song] * ahead1;
                    ahead1 += songs.lengths[song];
                }
            }
            return ahead0 > mostParts || ahead1 > mostParts ? NONE : loss;
        }
    }

    /** The CLICKS of a disc and their LINES. */
    private static final class Clicks {
        private static final int SLANTS = 3;

        private final int[] turns;
        private final int[] parts;
        private final int[] lines;
        int count;
        int bestLength;
        int bestTurn;
        int bestPart;
        int bestSlant;

        Clicks() {
            turns = new int[MOST_CLICKS];
            parts = new int[MOST_CLICKS];
            lines = new int[MOST_CLICKS * SLANTS];
        }

        int find(int turn, int part) {
            for (int k = 0; k < count; k++) {
                if (turns[k] == turn && parts[k] == part) {
                    return k;
                }
            }
            return NONE;
        }

        void add(int turn, int part) {
            turns[count] = turn;
            parts[count] = part;
            count++;
        }

        void findLongest() {
            bestLength = 0;
            for (int k = 0; k < count; k++) {
                for (int slant = -1; slant <= 1; slant++) {
                    int length = Integer.bitCount(walk(k, 1, slant));
                    if (length > bestLength || length == bestLength && isFirst(k, slant)) {
                        bestLength = length;
                        bestTurn = turns[k];
                        bestPart = parts[k];
                        bestSlant = slant;
                    }
                }
            }
        }

        private boolean isFirst(int click, int slant) {
            if (turns[click] != bestTurn) {
                return turns[click] < bestTurn;
            }
            if (parts[click] != bestPart) {
                return parts[click] < bestPart;
            }
            return slant < bestSlant;
        }

        /** The CLICKS from one on, turn by turn, a bit for each. */
        private int walk(int click, int way, int slant) {
            int set = 0;
            int at = click;
            for (int k = 0; k < count && at != NONE; k++) {
                set |= 1 << at;
                at = find(turns[at] + way, (parts[at] + way * slant) & (TURN - 1));
            }
            return set;
        }

        int fewestLines() {
            for (int k = 0; k < count; k++) {
                for (int s = 0; s < SLANTS; s++) {
                    lines[k * SLANTS + s] = walk(k, 1, s - 1) | walk(k, -1, s - 1);
                }
            }
            return fewest(lines, (1 << count) - 1, 0, count);
        }

        /** The least of best and of the used ones with what the open CLICKS still need. */
        private static int fewest(int[] lines, int open, int used, int best) {
            if (open == 0) {
                return Math.min(used, best);
            }
            if (used + 1 >= best) {
                return best;
            }
            int click = Integer.numberOfTrailingZeros(open);
            int least = best;
            for (int s = 0; s < SLANTS; s++) {
                if (!isVain(lines, click * SLANTS, s, open)) {
                    int left = open & ~lines[click * SLANTS + s];
                    least = fewest(lines, left, used + 1, least);
                }
            }
            return least;
        }

        /** A CLICK's line is vain, if it has nothing open that another one of that CLICK has not. */
        private static boolean isVain(int[] lines, int base, int s, int open) {
            int mine = lines[base + s] & open;
            for (int other = 0; other < SLANTS; other++) {
                int its = lines[base + other] & open;
                if (other != s && (mine & ~its) == 0 && (mine != its || other < s)) {
                    return true;
                }
            }
            return false;
        }
    }

    /** The KNOCKS, by their ticks, and the way of the NEEDLE. */
    private static final class Needle {
        private final int[] ticks;
        private final int[] pushes;
        private final boolean[] seen;
        int count;

        Needle() {
            ticks = new int[MOST_KNOCKS];
            pushes = new int[MOST_KNOCKS];
            seen = new boolean[SIDE_LENGTH];
        }

        boolean isKnockedAt(int tick) {
            for (int k = 0; k < count; k++) {
                if (ticks[k] == tick) {
                    return true;
                }
            }
            return false;
        }

        void add(int tick, int push) {
            int k = count;
            for (; k > 0 && ticks[k - 1] > tick; k--) {
                ticks[k] = ticks[k - 1];
                pushes[k] = pushes[k - 1];
            }
            ticks[k] = tick;
            pushes[k] = push;
            count++;
        }

        int countUnseen(Side side, Songs songs) {
            // behind the last KNOCK there is time enough for all of a SIDE
            follow(side, songs, LAST_TICK);
            int many = 0;
            for (int k = 0; k < side.count; k++) {
                if (!seen[k]) {
                    many++;
                }
            }
            return many;
        }

        /** The PART at a tick, or NONE behind the END; the SIDE must be settled. */
        int follow(Side side, Songs songs, int tick) {
            clear(seen);
            int ringPlace = side.ringPlace(songs, side.lockedBy);
            int part = 0;
            int from = 0;
            for (int k = 0; k < count && ticks[k] < tick; k++) {
                part = playOn(side, part, ticks[k] - from);
                if (part == NONE) {
                    return NONE;
                }
                part = partAhead(side, fallen(side, ringPlace, part, pushes[k]), 1);
                if (part == NONE) {
                    return NONE;
                }
                from = ticks[k] + 1;
            }
            return playOn(side, part, tick - from);
        }

        private int playOn(Side side, int part, int many) {
            for (int k = part; k < side.count && k <= part + many; k++) {
                seen[k] = true;
            }
            return partAhead(side, part, many);
        }

        private int partAhead(Side side, int part, int many) {
            int straight = part + many;
            if (straight < side.count) {
                return straight;
            }
            return side.isLocked() ? side.count + (straight - side.count) % TURN : NONE;
        }

        private int fallen(Side side, int ringPlace, int part, int push) {
            int wanted = placeOf(side, ringPlace, part) + push;
            int end = side.isLocked() ? side.count + TURN : side.count;
            int best = part;
            int bestOff = Math.abs(push);
            for (int k = part % TURN; k < end; k += TURN) {
                int off = Math.abs(placeOf(side, ringPlace, k) - wanted);
                if (off < bestOff || off == bestOff && k < best) {
                    best = k;
                    bestOff = off;
                }
            }
            return best;
        }

        private int placeOf(Side side, int ringPlace, int part) {
            return part < side.count ? side.places[part] : ringPlace;
        }
    }

    /** A STEP of a SHEET; what it has not been told is NONE. */
    private static final class Step {
        static final int TO_SIDE = 0;
        static final int TO_LEAD = 1;
        static final int TO_SONG = 2;
        static final int TO_LOCK = 3;
        static final int TO_MARK = 4;
        static final int TO_REPEAT = 5;
        static final int TO_CHOOSE = 6;

        static final int BY_PARTS = 0;
        static final int BY_ROOM = 1;
        static final int BY_NAME = 2;

        int kind;
        int at;
        int number;
        int from;
        int to;
        int soft;
        int fade;
        int test;
        int name;
        boolean above;
        Step inside;
        Step otherwise;
        Step next;

        void become(int newKind, int place) {
            kind = newKind;
            at = place;
            number = NONE;
            from = NONE;
            to = NONE;
            soft = NONE;
            fade = NONE;
            test = NONE;
            name = NONE;
            above = false;
            inside = null;
            otherwise = null;
            next = null;
        }
    }

    /** A SHEET and the reading of it: each TOKEN is looked at once, so the first FAULT is met first. */
    private static final class Sheet {
        private static final int END = 0;
        private static final int WORD = 1;
        private static final int NUMBER = 2;
        private static final int SIGN = 3;
        private static final int NO_TOKEN = 4;

        private static final int FAULT_TOKEN = 1;
        private static final int FAULT_STANDING = 2;
        private static final int FAULT_LIMIT = 3;
        private static final int FAULT_NUMBER = 4;
        private static final int FAULT_TWICE = 5;

        private static final int MOST_DIGITS = 4;

        private final Step[] steps;
        private final int[] nameStarts;
        private final int[] nameLengths;
        private int nameCount;
        private byte[] text;
        private int length;
        private int position;
        private int token;
        private int tokenAt;
        private int value;
        Step first;
        int stepCount;
        int faultKind;
        int faultAt;

        Sheet() {
            steps = new Step[MOST_STEPS];
            for (int k = 0; k < MOST_STEPS; k++) {
                steps[k] = new Step();
            }
            nameStarts = new int[MOST_NAMES];
            nameLengths = new int[MOST_NAMES];
        }

        void parse(byte[] bytes, int many) {
            text = bytes;
            length = Math.min(many, bytes.length);
            position = 0;
            nameCount = 0;
            stepCount = 0;
            faultKind = 0;
            faultAt = NONE;
            advance();
            first = readSteps(0);
            if (token != END) {
                misplaced();
            }
        }

        // ---- TOKENS

        private void advance() {
            while (position < length && (text[position] == 10 || text[position] == 32)) {
                position++;
            }
            tokenAt = position;
            value = position < length ? text[position] : 0;
            if (position >= length) {
                token = END;
            } else if (value >= 'a' && value <= 'z') {
                token = WORD;
                while (position < length && text[position] >= 'a' && text[position] <= 'z') {
                    position++;
                }
            } else if (value >= '0' && value <= '9') {
                value = 0;
                while (position < length && text[position] >= '0' && text[position] <= '9') {
                    value = value * 10 + text[position] - '0';
                    position++;
                }
                token = position - tokenAt > MOST_DIGITS ? NO_TOKEN : NUMBER;
            } else {
                position++;
                boolean isSign = value == '{' || value == '}' || value == ';'
                    || value == '<' || value == '>';
                token = isSign ? SIGN : NO_TOKEN;
            }
        }

        private boolean isWord(String word) {
            if (token != WORD || position - tokenAt != word.length()) {
                return false;
            }
            for (int k = 0; k < word.length(); k++) {
                if (text[tokenAt + k] != word.charAt(k)) {
                    return false;
                }
            }
            return true;
        }

        private void blame(int kind) {
            if (faultKind == 0) {
                faultKind = kind;
                faultAt = tokenAt;
            }
        }

        private void misplaced() {
            if (faultKind == 0) {
                faultKind = token == NO_TOKEN ? FAULT_TOKEN : FAULT_STANDING;
                faultAt = tokenAt;
            }
        }

        // ---- STEPS

        private Step readSteps(int depth) {
            Step head = null;
            Step tail = null;
            for (int k = 0; k <= MOST_STEPS && faultKind == 0 && token == WORD; k++) {
                Step step = readStep(depth);
                if (tail == null) {
                    head = step;
                } else {
                    tail.next = step;
                }
                tail = step;
            }
            return head;
        }

        private Step readBraces(int depth) {
            expect('{');
            Step head = readSteps(depth);
            expect('}');
            return head;
        }

        private Step readStep(int depth) {
            int kind = stepKind();
            if (kind == NONE) {
                misplaced();
                return null;
            }
            if (depth >= MOST_DEPTH || stepCount >= MOST_STEPS) {
                blame(FAULT_LIMIT);
                return null;
            }
            Step step = steps[stepCount];
            step.become(kind, tokenAt);
            stepCount++;
            advance();
            if (kind == Step.TO_REPEAT) {
                step.number = readNumber(0, 9);
                step.inside = readBraces(depth + 1);
            } else if (kind == Step.TO_CHOOSE) {
                readTest(step);
                step.inside = readBraces(depth + 1);
                if (faultKind == 0 && isWord("else")) {
                    advance();
                    step.otherwise = readBraces(depth + 1);
                }
            } else {
                if (kind == Step.TO_MARK) {
                    step.name = readName();
                } else {
                    step.number = readNumber(kind == Step.TO_LEAD ? 1 : 0, greatestFor(kind));
                }
                if (kind == Step.TO_SONG) {
                    readOptions(step);
                }
                expect(';');
            }
            return step;
        }

        private int stepKind() {
            if (isWord("side")) {
                return Step.TO_SIDE;
            }
            if (isWord("lead")) {
                return Step.TO_LEAD;
            }
            if (isWord("song")) {
                return Step.TO_SONG;
            }
            if (isWord("lock")) {
                return Step.TO_LOCK;
            }
            if (isWord("mark")) {
                return Step.TO_MARK;
            }
            if (isWord("again")) {
                return Step.TO_REPEAT;
            }
            return isWord("when") ? Step.TO_CHOOSE : NONE;
        }

        private static int greatestFor(int kind) {
            switch (kind) {
                case Step.TO_SIDE:
                    return SIDES - 1;
                case Step.TO_LEAD:
                    return MOST_LEAD;
                default:
                    return MOST_SONGS - 1;
            }
        }

        /** Each OPTION stands once at most, so a fifth one is a FAULT in any case. */
        private void readOptions(Step step) {
            for (int k = 0; k <= 4 && faultKind == 0 && token == WORD; k++) {
                if (isWord("from")) {
                    step.from = readOption(step.from, 0, SONG_LENGTH - 1);
                } else if (isWord("to")) {
                    step.to = readOption(step.to, 1, SONG_LENGTH);
                } else if (isWord("soft")) {
                    step.soft = readOption(step.soft, 0, MOST_LEVEL);
                } else if (isWord("fade")) {
                    step.fade = readOption(step.fade, 1, SONG_LENGTH);
                } else {
                    misplaced();
                }
            }
        }

        private int readOption(int sofar, int least, int greatest) {
            if (sofar != NONE) {
                blame(FAULT_TWICE);
                return NONE;
            }
            advance();
            return readNumber(least, greatest);
        }

        private void readTest(Step step) {
            if (isWord("have")) {
                step.test = Step.BY_NAME;
                advance();
                step.name = readName();
            } else if (isWord("parts") || isWord("room")) {
                step.test = isWord("parts") ? Step.BY_PARTS : Step.BY_ROOM;
                advance();
                if (token != SIGN || value != '<' && value != '>') {
                    misplaced();
                    return;
                }
                step.above = value == '>';
                advance();
                step.number = readNumber(0, 9999);
            } else {
                misplaced();
            }
        }

        private void expect(char sign) {
            if (faultKind != 0) {
                return;
            }
            if (token == SIGN && value == sign) {
                advance();
            } else {
                misplaced();
            }
        }

        private int readNumber(int least, int greatest) {
            if (faultKind != 0) {
                return NONE;
            }
            if (token != NUMBER) {
                misplaced();
                return NONE;
            }
            if (!within(value, least, greatest)) {
                blame(FAULT_NUMBER);
                return NONE;
            }
            int number = value;
            advance();
            return number;
        }

        private int readName() {
            if (token != WORD || position - tokenAt > NAME_LENGTH) {
                misplaced();
                return NONE;
            }
            int name = 0;
            while (name < nameCount && !isName(name)) {
                name++;
            }
            if (name >= MOST_NAMES) {
                blame(FAULT_LIMIT);
                return NONE;
            }
            if (name == nameCount) {
                nameStarts[name] = tokenAt;
                nameLengths[name] = position - tokenAt;
                nameCount++;
            }
            advance();
            return name;
        }

        private boolean isName(int name) {
            if (nameLengths[name] != position - tokenAt) {
                return false;
            }
            for (int k = 0; k < nameLengths[name]; k++) {
                if (text[nameStarts[name] + k] != text[tokenAt + k]) {
                    return false;
                }
            }
            return true;
        }
    }

    /** Does a SHEET's STEPS on the SIDES, and puts all back at an ERROR. */
    private static final class Runner {
        private static final int ERROR_SONG = 1;
        private static final int ERROR_LOCKED = 2;
        private static final int ERROR_LENGTH = 3;
        private static final int ERROR_ROOM = 4;
        private static final int ERROR_EMPTY = 5;
        private static final int ERROR_STEPS = 6;

        private final Songs songs;
        private final Side[] sides;
        private final Side[] keptSides;
        int[] markSides;
        int[] markParts;
        private int[] keptMarkSides;
        private int[] keptMarkParts;
        private int current;
        private int done;
        int errorKind;
        int errorAt;

        Runner(Songs allSongs, Side[] bothSides, Rules rules) {
            songs = allSongs;
            sides = bothSides;
            keptSides = new Side[SIDES];
            for (int k = 0; k < SIDES; k++) {
                keptSides[k] = new Side(rules);
            }
            markSides = new int[MOST_NAMES];
            markParts = new int[MOST_NAMES];
            keptMarkSides = new int[MOST_NAMES];
            keptMarkParts = new int[MOST_NAMES];
            Arrays.fill(markSides, NONE);
            errorKind = NONE;
            errorAt = NONE;
        }

        void forgetMarks() {
            Arrays.fill(markSides, NONE);
        }

        int nameOfMark(int k) {
            int before = 0;
            for (int name = 0; name < MOST_NAMES; name++) {
                if (markSides[name] != NONE) {
                    if (before == k) {
                        return name;
                    }
                    before++;
                }
            }
            return NONE;
        }

        boolean perform(Sheet sheet) {
            for (int k = 0; k < SIDES; k++) {
                keptSides[k].copyFrom(sides[k]);
                sides[k].empty();
            }
            swapMarks();
            forgetMarks();
            current = 0;
            done = 0;
            errorKind = 0;
            errorAt = NONE;
            doSteps(sheet.first, 0);
            if (errorKind == 0) {
                return true;
            }
            for (int k = 0; k < SIDES; k++) {
                sides[k].copyFrom(keptSides[k]);
            }
            swapMarks();
            return false;
        }

        private void swapMarks() {
            int[] oldSides = markSides;
            int[] oldParts = markParts;
            markSides = keptMarkSides;
            markParts = keptMarkParts;
            keptMarkSides = oldSides;
            keptMarkParts = oldParts;
        }

        private void doSteps(Step first, int depth) {
            if (depth > MOST_DEPTH) {
                return;
            }
            for (Step step = first; step != null && errorKind == 0; step = step.next) {
                doStep(step, depth);
            }
        }

        private void doStep(Step step, int depth) {
            done++;
            int wrong = wrongWith(step);
            if (wrong == 0 && done > MOST_DONE) {
                wrong = ERROR_STEPS;
            }
            if (wrong != 0) {
                errorKind = wrong;
                errorAt = step.at;
            } else if (step.kind == Step.TO_REPEAT) {
                for (int k = 0; k < step.number && errorKind == 0; k++) {
                    doSteps(step.inside, depth + 1);
                }
            } else if (step.kind == Step.TO_CHOOSE) {
                doSteps(holds(step) ? step.inside : step.otherwise, depth + 1);
            } else {
                doPlain(step);
            }
        }

        private int wrongWith(Step step) {
            Side side = sides[current];
            switch (step.kind) {
                case Step.TO_LEAD:
                    return wrongWithLaying(side, step.number);
                case Step.TO_SONG:
                    if (!songs.has(step.number) || !hasStretch(step)) {
                        return ERROR_SONG;
                    }
                    return wrongWithLaying(side, endOf(step) - startOf(step));
                case Step.TO_LOCK:
                    if (!songs.canRing(step.number)) {
                        return ERROR_SONG;
                    }
                    if (side.isLocked()) {
                        return ERROR_LOCKED;
                    }
                    return side.count == 0 ? ERROR_EMPTY : 0;
                case Step.TO_CHOOSE:
                    return step.test == Step.BY_ROOM && !side.settle() ? ERROR_ROOM : 0;
                default:
                    return 0;
            }
        }

        private int wrongWithLaying(Side side, int many) {
            if (side.isLocked()) {
                return ERROR_LOCKED;
            }
            return side.hasRoomFor(many) ? 0 : ERROR_LENGTH;
        }

        private boolean hasStretch(Step step) {
            return startOf(step) < endOf(step) && endOf(step) <= songs.lengths[step.number];
        }

        private int startOf(Step step) {
            return step.from == NONE ? 0 : step.from;
        }

        private int endOf(Step step) {
            return step.to == NONE ? songs.lengths[step.number] : step.to;
        }

        private boolean holds(Step step) {
            if (step.test == Step.BY_NAME) {
                return within(step.name, 0, MOST_NAMES - 1) && markSides[step.name] != NONE;
            }
            Side side = sides[current];
            int measured = step.test == Step.BY_PARTS ? side.count : side.extent();
            return step.above ? measured > step.number : measured < step.number;
        }

        private void doPlain(Step step) {
            switch (step.kind) {
                case Step.TO_SIDE:
                    current = step.number == 1 ? 1 : 0;
                    break;
                case Step.TO_LEAD:
                    sides[current].appendLead(step.number);
                    break;
                case Step.TO_SONG:
                    layStretch(step);
                    break;
                case Step.TO_LOCK:
                    sides[current].lockedBy = step.number;
                    break;
                default:
                    setMark(step.name);
                    break;
            }
        }

        private void setMark(int name) {
            if (within(name, 0, MOST_NAMES - 1)) {
                markSides[name] = current;
                markParts[name] = sides[current].count;
            }
        }

        private void layStretch(Step step) {
            int end = endOf(step);
            for (int part = startOf(step); part < end; part++) {
                int level = songs.levelOf(step.number, part);
                if (step.soft != NONE) {
                    level = Math.min(level, step.soft);
                }
                int fromEnd = end - part;
                if (step.fade > 0 && fromEnd <= step.fade) {
                    level = level * fromEnd / (step.fade + 1);
                }
                sides[current].append(level, step.number);
            }
        }
    }
}
