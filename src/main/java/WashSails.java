import java.util.Arrays;

/** A town on a raft of reeds that is moved by its laundry; the document's promises are named by number. */
public final class WashSails {
    public static final int BAD = -1, FULL = -2, FINDING = -3, STATE = -4, SPENT = -6, NONE = -9;

    private static final int NOTHING = 1, BEYOND = 2, UNLIKE = 3, NOUGHT = 4, SIZE = 5;
    private static final int LINE = 0, SHEET = 1, BLANKET = 2, BLACK = 3, BOLSTER = 4, PENNANT = 5;
    private static final int KINDS = 6;
    private static final int ROWS = 6, ROW_ROOM = 40, TEXTS = 4, TEXT_ROOM = 60, KEPT = 3;
    private static final int MOST_LINES = 6, MOST_SETS = 64, MOST_WINDS = 8, MOST_DEEDS = 40;
    private static final int MOST_PLAN = 6, MOST_SEARCH = 3, MOST_PAIRS = 10;
    private static final int BLANK = 32, WINDS_LETTER = 119, ZERO_FIGURE = 48;
    // Above every byte, so that what stands behind a text's end is none of its signs.
    private static final int NO_SIGN = 1000;
    private static final int HOUR_DEED = MOST_LINES;
    private static final int STORM = 3, STRONGEST_GUST = 6, MOST_WET = 9, PULL_OF_A_MILE = 4, GUST_PARTS = 12;
    private static final long LOT_FACTOR = 48271L, LOT_MODULUS = 2147483647L;

    private static final int[] LETTERS = {108, 115, 98, 107, 111, 112};
    private static final int[] KIND_ABOVE = {-1, LINE, LINE, LINE, SHEET, BOLSTER};

    private final Shelf rows = new Shelf(ROWS, ROW_ROOM);
    private final Shelf texts = new Shelf(TEXTS, TEXT_ROOM);
    private final Reader reader = new Reader();
    private final Town town = new Town();
    private final Shelf kept = new Shelf(KEPT, MOST_DEEDS);
    private final Chart chart = new Chart();
    private final Voyage voyage = new Voyage();
    private final Told told = new Told();
    private final int[] forecast = new int[MOST_LINES];
    private final int[] calm = new int[MOST_PLAN];
    private final int[] gusty = new int[MOST_PLAN];

    public WashSails() {
    }

    // ---- 1 rows, texts, towns

    public int row(int r, int n) {
        return makeOn(rows, r, n, 0);
    }

    public int lay(int r, int i, int v) {
        if (!rows.has(r)) return BAD;
        int finding = rows.findingAt(r, i);
        if (finding != 0) return told.refuse(finding);
        int was = rows.valueAt(r, i);
        rows.change(r, i, v);
        return told.answer(was);
    }

    public int at(int r, int i) {
        if (!rows.has(r)) return BAD;
        int finding = rows.findingAt(r, i);
        if (finding != 0) return told.refuse(finding);
        return told.answer(rows.valueAt(r, i));
    }

    public int tear(int r) {
        if (!rows.has(r)) return BAD;
        if (rows.isMissing(r)) return told.refuse(NOTHING);
        rows.drop(r);
        return 1;
    }

    public int copy(int r, int i, int to, int j, int n) {
        if (!rows.has(r) || !rows.has(to)) return BAD;
        if (n < 0) return told.refuse(SIZE);
        if (rows.isMissing(r) || rows.isMissing(to)) return told.refuse(NOTHING);
        if (!rows.hasPlaces(r, i, n) || !rows.hasPlaces(to, j, n)) return told.refuse(BEYOND);
        rows.move(r, i, to, j, n);
        return 1;
    }

    public int mean(int r) {
        if (!rows.has(r)) return BAD;
        if (rows.isMissing(r)) return told.refuse(NOTHING);
        int size = rows.sizeOf(r);
        if (size < 1) return told.refuse(NOUGHT);
        long sum = 0;
        for (int i = 0; i < size; i++) sum += rows.valueAt(r, i);
        return told.answer((int) (sum / size));
    }

    public int text(int t, int n) {
        return makeOn(texts, t, n, BLANK);
    }

    public int put(int t, int i, int v) {
        if (!texts.has(t)) return BAD;
        int finding = texts.findingAt(t, i);
        if (finding != 0) return told.refuse(finding);
        int was = texts.valueAt(t, i);
        texts.change(t, i, (byte) v);
        return was + 1000;
    }

    public int fault(int t) {
        if (!texts.has(t)) return BAD;
        if (texts.isMissing(t)) return told.refuse(NOTHING);
        return reader.faultOf(texts, t);
    }

    public int town(int t) {
        if (!texts.has(t)) return BAD;
        if (texts.isMissing(t)) return told.refuse(NOTHING);
        if (reader.faultOf(texts, t) != NONE) return STATE;
        town.layout.copyFrom(reader.draft);
        town.replay(0);
        for (int k = 0; k < KEPT; k++) kept.drop(k);
        return town.layout.lines;
    }

    public int line(int i, int what) {
        if (!town.layout.hasLine(i) || what < 0 || what > 6) return BAD;
        return told.answer(town.trait(i, what));
    }

    public int mark(int i, int kind) {
        Layout layout = town.layout;
        if (!layout.hasLine(i) || kind <= LINE || kind >= KINDS) return BAD;
        if (!isA(layout.kinds[i], kind)) return told.refuse(UNLIKE);
        switch (kind) {
            case SHEET: return layout.pullOf(i, 5);
            case BLANKET: return town.hoursToStorm();
            case BLACK: return Integer.bitCount(town.hung & ~(1 << i));
            case BOLSTER: return layout.othersNoWider(i);
            default: return pull(BOLSTER, layout.areas[i], town.windNow()) - layout.pullOf(i, town.windNow());
        }
    }

    public int wind(int hour) {
        if (hour < 0 || hour > 999) return BAD;
        if (town.isEmpty()) return STATE;
        return town.layout.windAt(hour);
    }

    // ---- 2 deeds

    public int hang(int i) {
        if (!town.layout.hasLine(i)) return BAD;
        if (town.isHung(i)) return STATE;
        if (!town.hasRoomFor(1)) return FULL;
        town.act(i);
        return Integer.bitCount(town.hung);
    }

    public int take(int i) {
        if (!town.layout.hasLine(i)) return BAD;
        if (!town.isHung(i)) return STATE;
        if (!town.hasRoomFor(1)) return FULL;
        town.act(i);
        return town.wet[i];
    }

    public int hour() {
        if (town.isEmpty()) return STATE;
        if (!town.hasRoomFor(1)) return FULL;
        town.act(HOUR_DEED);
        told.tellWhole(town.turn);
        return told.answer(town.miles);
    }

    public int undo(int n) {
        if (n < 0 || n > town.deedCount) return BAD;
        int undone = town.deedCount - n;
        town.replay(n);
        return undone;
    }

    public int keep(int k) {
        if (!kept.has(k)) return BAD;
        if (town.isEmpty()) return STATE;
        kept.make(k, town.deedCount, 0);
        for (int d = 0; d < town.deedCount; d++) kept.change(k, d, town.deeds[d]);
        return town.deedCount;
    }

    public int on(int k) {
        if (!kept.has(k)) return BAD;
        if (kept.isMissing(k)) return told.refuse(NOTHING);
        int count = kept.sizeOf(k);
        for (int d = 0; d < count; d++) town.deeds[d] = kept.valueAt(k, d);
        town.replay(count);
        return count;
    }

    // ---- 3 how it goes (aside, this HOUR)

    public int goes(int set) {
        if (!town.layout.hasSet(set)) return BAD;
        int wind = town.windNow();
        told.tellWhole(town.layout.turnOf(set, wind));
        return told.answer(town.layout.milesOf(set, wind));
    }

    public int even(int miles) {
        if (miles < -99 || miles > 99) return BAD;
        if (town.isEmpty()) return STATE;
        chart.draw(town.layout, town.windNow());
        int ways = 0;
        int first = NONE;
        int least = 0;
        for (int set = 0; set < chart.sets; set++) {
            if (!chart.fits(set, miles, 0)) continue;
            int linen = town.layout.linenOf(set);
            if (ways == 0 || linen < least) {
                first = set;
                least = linen;
            }
            ways++;
        }
        told.tellWhole(ways);
        return told.answer(first);
    }

    public int fast(int linen) {
        if (linen < 0 || linen > 99) return BAD;
        if (town.isEmpty()) return STATE;
        chart.draw(town.layout, town.windNow());
        // The empty set has no linen, so there is always one to begin with.
        int best = 0;
        for (int set = 1; set < chart.sets; set++) {
            if (town.layout.linenOf(set) <= linen && chart.milesOf(set) > chart.milesOf(best)) best = set;
        }
        told.answer(best);
        return chart.milesOf(best);
    }

    public int wet() {
        told.answer(town.allWet());
        return town.layout.allLines() & ~drySet(town.wet);
    }

    // ---- 4 voyages

    public int sail(int r) {
        int refused = planRefusal(r);
        if (refused != 0) return refused;
        int miles = town.miles;
        int turn = town.turn;
        for (int k = 0; k < rows.sizeOf(r); k++) {
            int wind = town.windAhead(k);
            miles += town.layout.milesOf(rows.valueAt(r, k), wind);
            turn += town.layout.turnOf(rows.valueAt(r, k), wind);
        }
        told.tellWhole(turn);
        return told.answer(miles);
    }

    public int dry(int r) {
        int refused = planRefusal(r);
        if (refused != 0) return refused;
        System.arraycopy(town.wet, 0, forecast, 0, MOST_LINES);
        for (int k = 0; k < rows.sizeOf(r); k++) weather(forecast, rows.valueAt(r, k), town.windAhead(k));
        return drySet(forecast);
    }

    public int far(int n, int t, int r) {
        if (n < 0 || n > MOST_SEARCH || t < 0 || t > 999 || !rows.has(r)) return BAD;
        if (town.isEmpty()) return STATE;
        if (!voyage.find(town, n, t)) return NONE;
        rows.make(r, n, 0);
        for (int k = 0; k < n; k++) rows.change(r, k, voyage.bestPlan[k]);
        return told.answer(voyage.bestMiles);
    }

    public int soon(int miles) {
        if (miles < -999 || miles > 999) return BAD;
        if (town.isEmpty()) return STATE;
        int all = town.layout.allLines();
        int reached = town.miles;
        for (int k = 0; k <= MOST_SEARCH; k++) {
            if (reached >= miles) return k;
            reached += town.layout.mostMilesOf(all, town.windAhead(k));
        }
        return NONE;
    }

    public int least(int n, int miles) {
        if (n < 0 || n > MOST_SEARCH) return BAD;
        if (town.isEmpty()) return STATE;
        int least = NONE;
        int sets = town.layout.allLines() + 1;
        for (int used = 0; used < sets; used++) {
            if (mostMilesBehind(n, used) < miles) continue;
            int linen = town.layout.linenOf(used);
            if (least == NONE || linen < least) least = linen;
        }
        return least;
    }

    // ---- 5 who did not hang

    public int ways(int miles, int turn) {
        if (miles < -99 || miles > 99 || turn < -999 || turn > 999) return BAD;
        if (town.isEmpty()) return STATE;
        chart.draw(town.layout, town.windNow());
        int ways = 0;
        int always = town.layout.allLines();
        for (int set = 0; set < chart.sets; set++) {
            if (!chart.fits(set, miles, turn)) continue;
            always &= set;
            ways++;
        }
        told.tellWhole(ways);
        return told.answer(ways == 0 ? 0 : always);
    }

    public int kinds(int i, int r) {
        int refused = pairsRefusal(i, r);
        if (refused != 0) return refused;
        int found = 0;
        for (int kind = 0; kind < KINDS; kind++) {
            if (pulledSo(r, kind, town.layout.areas[i])) found |= 1 << kind;
        }
        return found;
    }

    public int areas(int i, int r) {
        int refused = pairsRefusal(i, r);
        if (refused != 0) return refused;
        int found = 0;
        for (int area = 1; area <= 9; area++) {
            if (pulledSo(r, town.layout.kinds[i], area)) found |= 1 << area;
        }
        return found;
    }

    // ---- 6 a rival

    public int rival(int n) {
        if (n < 0 || n > 2) return BAD;
        if (town.isEmpty()) return STATE;
        chart.draw(town.layout, town.windNow());
        return told.answer(play(chart, town.hung, 2 * n));
    }

    // ---- 7 gusts, lots

    public int mid(int r, int p) {
        if (p < 0 || p > GUST_PARTS) return BAD;
        int refused = planRefusal(r);
        if (refused != 0) return refused;
        foresee(r);
        long parts = (long) GUST_PARTS * town.miles;
        for (int k = 0; k < rows.sizeOf(r); k++) parts += (GUST_PARTS - p) * calm[k] + p * gusty[k];
        told.tellShare(parts, GUST_PARTS);
        return 1;
    }

    public int odds(int r, int miles, int p) {
        if (miles < -999 || miles > 999 || p < 0 || p > GUST_PARTS) return BAD;
        int refused = planRefusal(r);
        if (refused != 0) return refused;
        foresee(r);
        int hours = rows.sizeOf(r);
        long all = 1;
        for (int k = 0; k < hours; k++) all *= GUST_PARTS;
        long good = 0;
        for (int gusts = 0; gusts < 1 << hours; gusts++) {
            if (milesByGusts(hours, gusts) >= miles) good += weightOfGusts(hours, gusts, p);
        }
        told.tellShare(good, all);
        return 1;
    }

    public int lots(int n, int seed) {
        if (n < 1 || n > 20 || seed < 1 || seed >= LOT_MODULUS) return BAD;
        int lines = town.layout.lines;
        if (lines < 1) return STATE;
        if (!town.hasRoomFor(2 * n)) return FULL;
        long lot = seed;
        for (int k = 0; k < n; k++) {
            lot = lot * LOT_FACTOR % LOT_MODULUS;
            town.act((int) (lot % lines));
            town.act(HOUR_DEED);
        }
        return told.answer(town.miles);
    }

    // ---- 8 what is told

    public int asked() {
        return told.asked;
    }

    public long upper() {
        return told.upper;
    }

    public long lower() {
        return told.lower;
    }

    public int count(int what) {
        switch (what) {
            case 0: return town.layout.lines;
            case 1: return town.hour;
            case 2: return town.deedCount;
            case 3: return Integer.bitCount(town.hung);
            case 4: return town.allWet();
            case 5: return town.layout.howManyAre(SHEET);
            case 6: return town.layout.howManyAre(BOLSTER);
            case 7: return rows.howMany();
            case 8: return texts.howMany();
            case 9: return kept.howMany();
            default: return BAD;
        }
    }

    public int miles() {
        told.tellWhole(town.turn);
        return town.miles;
    }

    public int finding() {
        return told.finding;
    }

    public int findings(int f) {
        if (f < NOTHING || f > SIZE) return BAD;
        return told.findings[f];
    }

    public long digest() {
        long h = 17;
        for (int what = 0; what <= 9; what++) h = 31 * h + count(what);
        h = 31 * h + town.miles;
        h = 31 * h + town.turn;
        for (int i = 0; i < town.layout.lines; i++) {
            for (int what = 0; what <= 6; what++) h = 31 * h + town.trait(i, what);
        }
        for (int k = 0; k < KEPT; k++) h = 31 * h + kept.sizeOf(k);
        return texts.fold(rows.fold(h));
    }

    // ---- helpers of the calls

    private int makeOn(Shelf shelf, int k, int n, int value) {
        if (!shelf.has(k) || n > shelf.room) return BAD;
        if (n < 0) return told.refuse(SIZE);
        shelf.make(k, n, value);
        return n;
    }

    /** 0 where a row holds a plan, else the call's answer. */
    private int planRefusal(int r) {
        if (!rows.has(r)) return BAD;
        if (town.isEmpty()) return STATE;
        if (rows.isMissing(r)) return told.refuse(NOTHING);
        if (rows.sizeOf(r) > MOST_PLAN) return told.refuse(SIZE);
        for (int k = 0; k < rows.sizeOf(r); k++) {
            if (!town.layout.hasSet(rows.valueAt(r, k))) return told.refuse(UNLIKE);
        }
        return 0;
    }

    /** 0 where there is such a line and a row holds pairs of winds and pulls, else the call's answer. */
    private int pairsRefusal(int i, int r) {
        if (!town.layout.hasLine(i) || !rows.has(r)) return BAD;
        if (rows.isMissing(r)) return told.refuse(NOTHING);
        int size = rows.sizeOf(r);
        if (size % 2 != 0 || size > 2 * MOST_PAIRS) return told.refuse(SIZE);
        for (int k = 0; k < size; k += 2) {
            int wind = rows.valueAt(r, k);
            if (wind < 0 || wind > STRONGEST_GUST) return told.refuse(UNLIKE);
        }
        return 0;
    }

    private boolean pulledSo(int r, int kind, int area) {
        for (int k = 0; k + 1 < rows.sizeOf(r); k += 2) {
            if (pull(kind, area, rows.valueAt(r, k)) != rows.valueAt(r, k + 1)) return false;
        }
        return true;
    }

    private int drySet(int[] wetness) {
        int found = 0;
        for (int i = 0; i < town.layout.lines; i++) {
            if (wetness[i] == 0) found |= 1 << i;
        }
        return found;
    }

    private int mostMilesBehind(int hours, int used) {
        int miles = town.miles;
        for (int k = 0; k < hours; k++) miles += town.layout.mostMilesOf(used, town.windAhead(k));
        return miles;
    }

    /** Sets what each hour of a plan goes without a gust and with one. */
    private void foresee(int r) {
        for (int k = 0; k < rows.sizeOf(r) && k < MOST_PLAN; k++) {
            int set = rows.valueAt(r, k);
            calm[k] = town.layout.milesOf(set, town.windAhead(k));
            gusty[k] = town.layout.milesOf(set, town.windAhead(k) + 1);
        }
    }

    private int milesByGusts(int hours, int gusts) {
        int miles = town.miles;
        for (int k = 0; k < hours; k++) miles += (gusts >> k & 1) == 1 ? gusty[k] : calm[k];
        return miles;
    }

    private static long weightOfGusts(int hours, int gusts, int p) {
        long weight = 1;
        for (int k = 0; k < hours; k++) weight *= (gusts >> k & 1) == 1 ? p : GUST_PARTS - p;
        return weight;
    }

    /** The miles of a game with so many turns left; the town is on turn where they are even. */
    private static int play(Chart chart, int hung, int left) {
        if (left <= 0) return chart.milesOf(hung);
        boolean townsTurn = left % 2 == 0;
        int best = play(chart, hung, left - 1);
        for (int i = 0; i < chart.lines; i++) {
            boolean isHung = (hung >> i & 1) == 1;
            if (isHung == townsTurn) continue;
            int miles = play(chart, hung ^ 1 << i, left - 1);
            best = townsTurn ? Math.max(best, miles) : Math.min(best, miles);
        }
        return best;
    }

    private static boolean isA(int kind, int above) {
        int k = kind;
        for (int step = 0; step < KINDS && k >= 0 && k < KINDS; step++) {
            if (k == above) return true;
            k = KIND_ABOVE[k];
        }
        return false;
    }

    private static int pull(int kind, int area, int wind) {
        int plain = area * wind;
        int ofSheet = plain + wind;
        switch (kind) {
            case SHEET: return ofSheet;
            case BLANKET: return wind >= STORM ? plain : 0;
            case BLACK: return -plain;
            case BOLSTER: return 2 * ofSheet;
            case PENNANT: return 2 * ofSheet / 3;
            default: return plain;
        }
    }

    /** What an hour's wind, or rain, does to lines that hang. */
    private static void weather(int[] wetness, int hung, int wind) {
        for (int i = 0; i < MOST_LINES && i < wetness.length; i++) {
            if ((hung >> i & 1) == 0) continue;
            wetness[i] = wind > 0 ? Math.max(0, wetness[i] - 1) : Math.min(MOST_WET, wetness[i] + 2);
        }
    }

    /** Numbered rows of ints, each missing or of a size; all room is made once, since no call gives any back. */
    private static final class Shelf {
        final int room;
        private final int[][] cells;
        private final int[] sizes;

        Shelf(int places, int room) {
            this.room = room;
            this.cells = new int[places][room];
            this.sizes = new int[places];
            Arrays.fill(sizes, -1);
        }

        boolean has(int k) {
            return k >= 0 && k < sizes.length;
        }

        boolean isMissing(int k) {
            return sizeOf(k) < 0;
        }

        int sizeOf(int k) {
            return has(k) ? sizes[k] : -1;
        }

        int howMany() {
            int there = 0;
            for (int k = 0; k < sizes.length; k++) {
                if (sizes[k] >= 0) there++;
            }
            return there;
        }

        boolean hasPlaces(int k, int from, int n) {
            return has(k) && from >= 0 && n >= 0 && from <= sizes[k] - n;
        }

        int findingAt(int k, int i) {
            if (isMissing(k)) return NOTHING;
            return hasPlaces(k, i, 1) ? 0 : BEYOND;
        }

        int valueAt(int k, int i) {
            return hasPlaces(k, i, 1) ? cells[k][i] : NO_SIGN;
        }

        void change(int k, int i, int value) {
            if (hasPlaces(k, i, 1)) cells[k][i] = value;
        }

        void make(int k, int n, int value) {
            if (!has(k) || n < 0 || n > room) return;
            sizes[k] = n;
            Arrays.fill(cells[k], value);
        }

        void drop(int k) {
            if (has(k)) sizes[k] = -1;
        }

        void move(int k, int i, int to, int j, int n) {
            if (hasPlaces(k, i, n) && hasPlaces(to, j, n)) System.arraycopy(cells[k], i, cells[to], j, n);
        }

        long fold(long before) {
            long h = before;
            for (int k = 0; k < sizes.length; k++) {
                h = 31 * h + sizes[k];
                for (int i = 0; i < sizes[k]; i++) h = 31 * h + cells[k][i];
            }
            return h;
        }
    }

    /** The lines and winds of a town: what no deed changes. */
    private static final class Layout {
        final int[] kinds = new int[MOST_LINES];
        final int[] places = new int[MOST_LINES];
        final int[] areas = new int[MOST_LINES];
        final int[] linens = new int[MOST_LINES];
        final int[] winds = new int[MOST_WINDS];
        int lines;
        int hours;

        void copyFrom(Layout other) {
            System.arraycopy(other.kinds, 0, kinds, 0, MOST_LINES);
            System.arraycopy(other.places, 0, places, 0, MOST_LINES);
            System.arraycopy(other.areas, 0, areas, 0, MOST_LINES);
            System.arraycopy(other.linens, 0, linens, 0, MOST_LINES);
            System.arraycopy(other.winds, 0, winds, 0, MOST_WINDS);
            lines = other.lines;
            hours = other.hours;
        }

        boolean hasLine(int i) {
            return i >= 0 && i < lines;
        }

        int allLines() {
            return (1 << lines) - 1;
        }

        boolean hasSet(int set) {
            return set >= 0 && set <= allLines();
        }

        int windAt(int hour) {
            return hours < 1 || hour < 0 ? 0 : winds[hour % hours];
        }

        int pullOf(int i, int wind) {
            return hasLine(i) ? pull(kinds[i], areas[i], wind) : 0;
        }

        int milesOf(int set, int wind) {
            int pulls = 0;
            for (int i = 0; i < lines; i++) {
                if ((set >> i & 1) == 1) pulls += pullOf(i, wind);
            }
            return pulls / PULL_OF_A_MILE;
        }

        int turnOf(int set, int wind) {
            int turn = 0;
            for (int i = 0; i < lines; i++) {
                if ((set >> i & 1) == 1) turn += pullOf(i, wind) * places[i];
            }
            return turn;
        }

        /** The most by a part of a set: more pull never goes fewer miles, so each line that pulls ahead hangs. */
        int mostMilesOf(int set, int wind) {
            int pulls = 0;
            for (int i = 0; i < lines; i++) {
                if ((set >> i & 1) == 1) pulls += Math.max(0, pullOf(i, wind));
            }
            return pulls / PULL_OF_A_MILE;
        }

        int linenOf(int set) {
            int linen = 0;
            for (int i = 0; i < lines; i++) {
                if ((set >> i & 1) == 1) linen += linens[i];
            }
            return linen;
        }

        int howManyAre(int kind) {
            int found = 0;
            for (int i = 0; i < lines; i++) {
                if (isA(kinds[i], kind)) found++;
            }
            return found;
        }

        int othersNoWider(int line) {
            if (!hasLine(line)) return 0;
            int found = 0;
            for (int i = 0; i < lines; i++) {
                if (i != line && areas[i] <= areas[line]) found++;
            }
            return found;
        }
    }

    /** Reads a town's language into a draft of its own, so that a text with a fault leaves the town as it is. */
    private static final class Reader {
        final Layout draft = new Layout();
        private int place;

        int faultOf(Shelf texts, int t) {
            draft.lines = 0;
            draft.hours = 0;
            place = 0;
            skipBlanks(texts, t);
            if (texts.valueAt(t, place) != WINDS_LETTER) return place;
            place++;
            readWinds(texts, t);
            if (draft.hours == 0) return place;
            for (int n = 0; n <= MOST_LINES; n++) {
                skipBlanks(texts, t);
                if (n > 0 && place >= texts.sizeOf(t)) return NONE;
                if (n == MOST_LINES || !readLine(texts, t)) return place;
            }
            return place;
        }

        private void skipBlanks(Shelf texts, int t) {
            for (int n = 0; n < TEXT_ROOM && texts.valueAt(t, place) == BLANK; n++) place++;
        }

        private void readWinds(Shelf texts, int t) {
            for (int n = 0; n < MOST_WINDS; n++) {
                int figure = texts.valueAt(t, place) - ZERO_FIGURE;
                if (figure < 0 || figure > 5) return;
                draft.winds[n] = figure;
                draft.hours = n + 1;
                place++;
            }
        }

        /** False where the line can't be read on; the place is then that of the fault. */
        private boolean readLine(Shelf texts, int t) {
            int i = draft.lines;
            int kind = kindOf(texts.valueAt(t, place));
            if (i < 0 || i >= MOST_LINES || kind < 0) return false;
            place++;
            draft.kinds[i] = kind;
            draft.places[i] = readFigure(texts, t, 0, 8) - 4;
            if (draft.places[i] < -4) return false;
            draft.areas[i] = readFigure(texts, t, 1, 9);
            if (draft.areas[i] < 0) return false;
            draft.linens[i] = readFigure(texts, t, 0, 9);
            if (draft.linens[i] < 0) return false;
            draft.lines = i + 1;
            return true;
        }

        /** The figure at the place, which then goes on; -1 where there is no such figure. */
        private int readFigure(Shelf texts, int t, int low, int high) {
            int figure = texts.valueAt(t, place) - ZERO_FIGURE;
            if (figure < low || figure > high) return -1;
            place++;
            return figure;
        }

        private static int kindOf(int sign) {
            for (int kind = 0; kind < KINDS; kind++) {
                if (LETTERS[kind] == sign) return kind;
            }
            return -1;
        }
    }

    /** A layout and its deeds; all else follows from these, so that what is undone is played again from the first. */
    private static final class Town {
        final Layout layout = new Layout();
        final int[] deeds = new int[MOST_DEEDS];
        final int[] wet = new int[MOST_LINES];
        int deedCount;
        int hung;
        int hour;
        int miles;
        int turn;

        boolean isEmpty() {
            return layout.lines < 1;
        }

        boolean isHung(int i) {
            return (hung >> i & 1) == 1;
        }

        boolean hasRoomFor(int more) {
            return deedCount + more <= MOST_DEEDS;
        }

        int windNow() {
            return layout.windAt(hour);
        }

        int windAhead(int k) {
            return layout.windAt(hour + k);
        }

        int allWet() {
            int sum = 0;
            for (int i = 0; i < layout.lines; i++) sum += wet[i];
            return sum;
        }

        int hoursToStorm() {
            for (int k = 0; k < MOST_WINDS; k++) {
                if (windAhead(k) >= STORM) return k;
            }
            return NONE;
        }

        int trait(int i, int what) {
            if (!layout.hasLine(i)) return 0;
            switch (what) {
                case 0: return layout.kinds[i];
                case 1: return layout.places[i];
                case 2: return layout.areas[i];
                case 3: return layout.linens[i];
                case 4: return isHung(i) ? 1 : 0;
                case 5: return wet[i];
                default: return layout.pullOf(i, windNow());
            }
        }

        /** Does a deed and writes it down: the number of a line that goes out or in, or an hour. */
        void act(int deed) {
            if (!hasRoomFor(1)) return;
            deeds[deedCount] = deed;
            deedCount++;
            if (deed == HOUR_DEED) passHour();
            else hung ^= 1 << deed;
        }

        private void passHour() {
            int wind = windNow();
            miles += layout.milesOf(hung, wind);
            turn += layout.turnOf(hung, wind);
            weather(wet, hung, wind);
            hour++;
        }

        /** As it is behind the first n of the deeds that are written down. */
        void replay(int n) {
            Arrays.fill(wet, 0);
            deedCount = 0;
            hung = 0;
            hour = 0;
            miles = 0;
            turn = 0;
            for (int d = 0; d < n && d < MOST_DEEDS; d++) act(deeds[d]);
        }
    }

    /** How far each set of lines goes and turns in one wind. */
    private static final class Chart {
        private final int[] pulls = new int[MOST_SETS];
        private final int[] turns = new int[MOST_SETS];
        int lines;
        int sets;

        void draw(Layout layout, int wind) {
            lines = layout.lines;
            sets = 1;
            pulls[0] = 0;
            turns[0] = 0;
            for (int i = 0; i < lines; i++) {
                int pull = layout.pullOf(i, wind);
                int turn = pull * layout.places[i];
                for (int set = 0; set < sets && sets + set < MOST_SETS; set++) {
                    pulls[sets + set] = pulls[set] + pull;
                    turns[sets + set] = turns[set] + turn;
                }
                sets <<= 1;
            }
        }

        int milesOf(int set) {
            return set >= 0 && set < MOST_SETS ? pulls[set] / PULL_OF_A_MILE : 0;
        }

        int turnBy(int set) {
            return set >= 0 && set < MOST_SETS ? turns[set] : 0;
        }

        boolean fits(int set, int miles, int turn) {
            return milesOf(set) == miles && turnBy(set) == turn;
        }
    }

    /** The search for the plan that goes farthest without being turned too far. */
    private static final class Voyage {
        final int[] bestPlan = new int[MOST_SEARCH];
        int bestMiles;
        private final Chart[] charts = new Chart[MOST_SEARCH];
        // The most miles that hours k and later can add, whatever they turn.
        private final int[] atMost = new int[MOST_SEARCH + 1];
        private final int[] plan = new int[MOST_SEARCH];
        private boolean found;
        private int hours;
        private int limit;

        Voyage() {
            for (int k = 0; k < MOST_SEARCH; k++) charts[k] = new Chart();
        }

        boolean find(Town town, int n, int t) {
            hours = Math.min(n, MOST_SEARCH);
            limit = t;
            found = false;
            atMost[hours] = 0;
            for (int k = hours - 1; k >= 0; k--) {
                int wind = town.windAhead(k);
                charts[k].draw(town.layout, wind);
                atMost[k] = atMost[k + 1] + town.layout.mostMilesOf(town.layout.allLines(), wind);
            }
            sailFrom(0, town.miles, town.turn);
            return found;
        }

        /** Plans come in their order, so that only more miles than before take the first one's place. */
        private void sailFrom(int k, int miles, int turn) {
            if (k >= hours || k >= MOST_SEARCH) {
                found = true;
                bestMiles = miles;
                System.arraycopy(plan, 0, bestPlan, 0, MOST_SEARCH);
                return;
            }
            Chart chart = charts[k];
            for (int set = 0; set < chart.sets; set++) {
                int milesThen = miles + chart.milesOf(set);
                if (found && milesThen + atMost[k + 1] <= bestMiles) continue;
                int turnThen = turn + chart.turnBy(set);
                if (turnThen > limit || turnThen < -limit) continue;
                plan[k] = set;
                sailFrom(k + 1, milesThen, turnThen);
            }
        }
    }

    /** What calls told beside their answers. */
    private static final class Told {
        final int[] findings = new int[SIZE + 1];
        int finding;
        int asked;
        long upper;
        long lower = 1;

        int answer(int value) {
            asked = value;
            return 1;
        }

        int refuse(int f) {
            if (f < NOTHING || f > SIZE) return FINDING;
            finding = f;
            findings[f]++;
            return FINDING;
        }

        void tellWhole(long value) {
            upper = value;
            lower = 1;
        }

        /** A share of a whole above 0, in lowest terms. */
        void tellShare(long part, long whole) {
            long common = commonDivisor(Math.abs(part), whole);
            if (common < 1) common = 1;
            upper = part / common;
            lower = whole / common;
        }

        private static long commonDivisor(long a, long b) {
            long x = a;
            long y = b;
            for (int step = 0; step < 100 && y != 0; step++) {
                long rest = x % y;
                x = y;
                y = rest;
            }
            return x;
        }
    }
}
