import java.util.Arrays;

/**
 * A town of square stones, each with four words, of which one may be turned a quarter each New
 * Year's night, so that the streets say other things, laws among them.
 */
public final class TurnedStones {
    public static final int BAD = -1, FULL = -2, FINDING = -3, STATE = -4, SPENT = -6, NONE = -9;

    private static final int NOTHING = 1, BEYOND = 2, UNLIKE = 3, NOUGHT = 4, SIZE = 5;
    private static final int WORN = 1, FIXED = 2, HALF = 3, CUT = 4, SUNK = 5;
    private static final int UNREAD = 0, PERHAPS = 1, AS_LAID = 2, SURELY = 3;
    private static final int FINE = 0, MISSING = -1, GAP = -1, BLANK = 32;
    private static final int ROWS = 6, ROW_SIZE = 60, TEXTS = 4, TEXT_SIZE = 80;
    private static final int LAWS = 4, LAW_SIZE = 3, LAW_SETS = 1 << LAWS, WORDS = 8, SIDES = 4, ENDS = 2;
    private static final int STONES = 6, STATES = 1 << (2 * STONES), LONGS = STATES / 64;
    private static final int STREET_SIZE = 3, PLACES = 3, ENGRAVINGS = 4, LAST_YEAR = 999, LAST_TOLD_YEAR = 9;
    private static final int LONGEST_CONTEST = 12, LONGEST_LIFE = 17, CHANCES = 12;

    private final Table rows = new Table(ROWS, ROW_SIZE);
    private final Table texts = new Table(TEXTS, TEXT_SIZE);
    private final Stones stones = new Stones();
    private final Stones draft = new Stones();
    private final TownReader reader = new TownReader(texts, draft);
    private final LawBook book = new LawBook(stones);
    private final Wants wants = new Wants(stones, book);
    private final Records records = new Records(stones);
    private final Past past = new Past(stones, records);
    private final Told told = new Told();
    private final int[] keptStates = new int[PLACES];
    private final int[] keptYears = new int[PLACES];
    private int nowState = 0;
    private int nowYear = 0;

    public TurnedStones() {
        Arrays.fill(keptYears, MISSING);
    }

    // ---- 1 rows, texts, towns

    public int row(int r, int n) {
        return begin(rows, r, n, 0);
    }

    public int lay(int r, int i, int v) {
        int refused = placeRefusal(rows, r, i);
        if (refused != FINE) return refused;
        told.answer = rows.get(r, i);
        rows.set(r, i, v);
        return 1;
    }

    public int at(int r, int i) {
        int refused = placeRefusal(rows, r, i);
        if (refused != FINE) return refused;
        told.answer = rows.get(r, i);
        return 1;
    }

    public int tear(int r) {
        int refused = refusal(rows, r);
        if (refused != FINE) return refused;
        rows.drop(r);
        return 1;
    }

    public int copy(int r, int i, int to, int j, int n) {
        if (!rows.knows(r) || !rows.knows(to)) return BAD;
        if (n < 0) return find(SIZE);
        if (!rows.has(r) || !rows.has(to)) return find(NOTHING);
        if (!rows.holds(r, i, n) || !rows.holds(to, j, n)) return find(BEYOND);
        rows.move(r, i, to, j, n);
        return 1;
    }

    public int mean(int r) {
        int refused = refusal(rows, r);
        if (refused != FINE) return refused;
        int n = rows.size(r);
        if (n <= 0) return find(NOUGHT);
        long sum = 0;
        for (int i = 0; i < n; i++) sum += rows.get(r, i);
        told.answer = (int) (sum / n);
        return 1;
    }

    public int text(int t, int n) {
        return begin(texts, t, n, BLANK);
    }

    public int put(int t, int i, int v) {
        int refused = placeRefusal(texts, t, i);
        if (refused != FINE) return refused;
        int was = texts.get(t, i);
        texts.set(t, i, (byte) v);
        return was + 1000;
    }

    public int fault(int t) {
        int refused = refusal(texts, t);
        return refused != FINE ? refused : reader.faultOf(t);
    }

    public int town(int t) {
        int refused = refusal(texts, t);
        if (refused != FINE) return refused;
        if (reader.faultOf(t) != NONE) return STATE;
        stones.take(draft);
        nowState = 0;
        nowYear = 0;
        Arrays.fill(keptYears, MISSING);
        records.dropFrom(0);
        book.rebuildAll();
        return stones.number();
    }

    public int stone(int k, int what) {
        if (!stones.knows(k) || what < 0 || what > 1 + SIDES) return BAD;
        told.answer = stoneTells(k, what);
        return 1;
    }

    public int mark(int k, int kind) {
        if (!stones.knows(k) || kind < WORN || kind > SUNK) return BAD;
        if (!stones.isOf(k, kind)) return find(UNLIKE);
        switch (kind) {
            case WORN: return stones.sides[k];
            case FIXED: return stones.sharedStreets();
            case HALF: return stones.unlikeWords(k, 1 | 1 << 2);
            case CUT: return stones.unlikeWords(k, 15 & ~(1 << stones.sides[k]));
            default: return stones.rowOf(k);
        }
    }

    public int law(int l, int r) {
        if (!book.words.knows(l)) return BAD;
        int refused = refusal(rows, r);
        if (refused != FINE) return refused;
        int n = rows.size(r);
        if (n < 1 || n > LAW_SIZE) return find(SIZE);
        if (!holdsWords(r, 0)) return find(UNLIKE);
        book.words.take(l, rows, r);
        book.rebuild(l);
        return n;
    }

    // ---- 2 what is read, years

    public int reads(int street, int end, int r) {
        if (!isStreetEnd(street, end) || !rows.knows(r)) return BAD;
        int n = stones.length(street);
        int words = 0;
        rows.begin(r, n, GAP);
        for (int i = 0; i < n; i++) {
            int k = stones.stoneAt(street, end, i);
            int word = stones.shown(k, stones.sideRead(nowState, k, street, end));
            rows.set(r, i, word);
            if (word != GAP) words++;
        }
        return words;
    }

    public int stands(int l) {
        int refused = refusal(book.words, l);
        if (refused != FINE) return refused;
        told.answer = book.readings(l, nowState);
        int level = book.level(l, nowState);
        return level == SURELY ? 2 : level == UNREAD ? 0 : 1;
    }

    public int laws() {
        int perhaps = 0;
        for (int l = 0; l < LAWS; l++) {
            if (book.words.has(l) && book.level(l, nowState) >= PERHAPS) perhaps |= 1 << l;
        }
        told.answer = perhaps;
        return book.standingIn(nowState);
    }

    public int turn(int k) {
        if (k != NONE && !stones.knows(k)) return BAD;
        if (!mayTurn(k)) return find(UNLIKE);
        if (nowYear >= LAST_YEAR) return SPENT;
        passYear(k);
        return nowYear;
    }

    public int till(int r, int l) {
        if (!rows.knows(r) || !book.words.knows(l)) return BAD;
        if (!book.words.has(l) || !rows.has(r)) return find(NOTHING);
        int n = rows.size(r);
        for (int i = 0; i < n; i++) {
            if (!mayTurn(rows.get(r, i))) return find(UNLIKE);
        }
        if (n > LAST_YEAR - nowYear) return SPENT;
        for (int i = 0; i < n; i++) {
            if (book.standing[l].has(nowState)) return i;
            passYear(rows.get(r, i));
        }
        return book.standing[l].has(nowState) ? n : NONE;
    }

    public int keep(int k) {
        if (k < 0 || k >= PLACES) return BAD;
        if (stones.number() == 0) return STATE;
        keptStates[k] = nowState;
        keptYears[k] = nowYear;
        return nowYear;
    }

    public int on(int k) {
        if (k < 0 || k >= PLACES) return BAD;
        if (keptYears[k] == MISSING) return find(NOTHING);
        nowState = keptStates[k];
        nowYear = keptYears[k];
        return nowYear;
    }

    public int state() {
        told.answer = nowYear;
        return nowState;
    }

    // ---- 3 wants

    public int years(int set) {
        if (!isLawSet(set)) return BAD;
        int least = wants.leastYears(nowState, set);
        if (least == NONE) return NONE;
        told.answer = wants.reached;
        return least;
    }

    public int way(int set, int r) {
        if (!isLawSet(set) || !rows.knows(r)) return BAD;
        int least = wants.leastYears(nowState, set);
        if (least == NONE) return NONE;
        rows.begin(r, least, 0);
        int i = 0;
        for (int k = 0; k < stones.number(); k++) {
            int turns = stones.turnsBetween(nowState, wants.reached, k);
            for (int t = 0; t < turns; t++) rows.set(r, i++, k);
        }
        return least;
    }

    public int lost(int set) {
        if (!isLawSet(set)) return BAD;
        if (wants.leastYears(nowState, set) == NONE) return NONE;
        int first = book.standingIn(nowState);
        int always = first;
        int walked = nowState;
        for (int k = 0; k < stones.number(); k++) {
            int turns = stones.turnsBetween(nowState, wants.reached, k);
            for (int t = 0; t < turns; t++) {
                walked = stones.moved(walked, k);
                always &= book.standingIn(walked);
            }
        }
        told.answer = always;
        return first & ~book.standingIn(walked);
    }

    public int share(int set) {
        if (!isLawSet(set)) return BAD;
        if (stones.number() == 0) return STATE;
        int all = wants.goalOf(0).size();
        int some = wants.goalOf(set).size();
        told.fraction(some, all);
        return some;
    }

    public int together() {
        int best = 0;
        int bestSet = 0;
        for (int set = 1; set < LAW_SETS; set++) {
            int number = Integer.bitCount(set);
            if (number > best && !wants.goalOf(set).isEmpty()) {
                best = number;
                bestSet = set;
            }
        }
        told.answer = bestSet;
        return best;
    }

    public int mend(int l) {
        int refused = refusal(book.words, l);
        if (refused != FINE) return refused;
        if (book.leastYears(l, nowState) != NONE) return STATE;
        for (int k = 0; k < stones.number(); k++) {
            for (int side = 0; side < SIDES; side++) {
                int word = stones.isMendable(k, side) ? book.mendingWord(l, nowState, k, side) : NONE;
                if (word != NONE) {
                    told.answer = book.mendedYears;
                    return 100 * k + 10 * side + word;
                }
            }
        }
        return NONE;
    }

    public int contest(int l, int n) {
        if (!book.words.knows(l) || n < 0 || n > LONGEST_CONTEST) return BAD;
        if (!book.words.has(l)) return find(NOTHING);
        boolean made = wants.isWon(l, n, nowState);
        told.answer = wants.opening;
        return made ? 1 : 0;
    }

    // ---- 4 engravings, histories

    public int engrave(int year, int street, int end, int r) {
        if (!isToldYear(year) || !isStreetEnd(street, end)) return BAD;
        int refused = refusal(rows, r);
        if (refused != FINE) return refused;
        if (rows.size(r) != stones.length(street)) return find(SIZE);
        if (!holdsWords(r, GAP)) return find(UNLIKE);
        if (records.number >= ENGRAVINGS) return FULL;
        return records.add(year, street, end, rows, r);
    }

    public int lose(int n) {
        if (n < 0 || n > records.number) return BAD;
        int before = records.number;
        records.dropFrom(n);
        return before - n;
    }

    public int histories(int n) {
        if (!isToldYear(n)) return BAD;
        if (!past.isTold(n)) return find(NOUGHT);
        told.fraction(past.allWays(n), 1);
        return 1;
    }

    public int when(int n, int l) {
        if (!isToldYear(n)) return BAD;
        int refused = refusal(book.words, l);
        if (refused != FINE) return refused;
        if (!past.isTold(n)) return find(NOUGHT);
        int inAll = 0;
        int inSome = 0;
        for (int k = 0; k <= n; k++) {
            if (past.live[k].isWithin(book.standing[l])) inAll |= 1 << k;
            if (past.live[k].meets(book.standing[l])) inSome |= 1 << k;
        }
        told.answer = inSome;
        return inAll;
    }

    public int turned(int n, int k) {
        if (!isToldYear(n) || k < 1 || k > n) return BAD;
        if (!past.isTold(n)) return find(NOUGHT);
        told.answer = past.live[k - 1].meets(past.live[k]) ? 1 : 0;
        return past.turnedInto(k);
    }

    public int odds(int n, int k, int l) {
        if (!isToldYear(n) || k < 0 || k > n) return BAD;
        int refused = refusal(book.words, l);
        if (refused != FINE) return refused;
        if (!past.isTold(n)) return find(NOUGHT);
        told.fraction(past.waysBy(n, k, book.standing[l]), past.allWays(n));
        return 1;
    }

    public int lives(int set, int p) {
        if (!isLawSet(set) || p < 1 || p > CHANCES) return BAD;
        int least = wants.leastYears(nowState, set);
        if (least == NONE) return NONE;
        if (least > LONGEST_LIFE) return SPENT;
        long upper = 1;
        long lower = 1;
        for (int i = 0; i < least; i++) {
            upper *= p;
            lower *= CHANCES;
        }
        told.fraction(upper, lower);
        return least;
    }

    // ---- 5 what is told

    public int asked() {
        return told.answer;
    }

    public long upper() {
        return told.top;
    }

    public long lower() {
        return told.bottom;
    }

    public int count(int what) {
        return what < 0 || what > 7 ? BAD : tally(what);
    }

    public int finding() {
        return told.latest;
    }

    public int findings(int f) {
        return f < NOTHING || f > SIZE ? BAD : told.found[f];
    }

    public long digest() {
        long h = 17;
        for (int what = 0; what <= 7; what++) h = 31 * h + tally(what);
        h = 31 * h + nowYear;
        for (int k = 0; k < stones.number(); k++) {
            for (int what = 0; what <= 1 + SIDES; what++) h = 31 * h + stoneTells(k, what);
        }
        h = book.words.fold(h);
        h = records.fold(h);
        for (int k = 0; k < PLACES; k++) {
            if (keptYears[k] != MISSING) h = 31 * h + keptStates[k];
            h = 31 * h + keptYears[k];
        }
        h = rows.fold(h);
        return texts.fold(h);
    }

    // ---- what several calls need

    private int find(int finding) {
        told.note(finding);
        return FINDING;
    }

    private int refusal(Table table, int r) {
        if (!table.knows(r)) return BAD;
        return table.has(r) ? FINE : find(NOTHING);
    }

    private int placeRefusal(Table table, int r, int i) {
        int refused = refusal(table, r);
        if (refused != FINE) return refused;
        return table.holds(r, i, 1) ? FINE : find(BEYOND);
    }

    private int begin(Table table, int r, int n, int filler) {
        if (!table.knows(r) || n > table.longest) return BAD;
        if (n < 0) return find(SIZE);
        table.begin(r, n, filler);
        return n;
    }

    private boolean holdsWords(int r, int least) {
        for (int i = 0; i < rows.size(r); i++) {
            int word = rows.get(r, i);
            if (word < least || word >= WORDS) return false;
        }
        return true;
    }

    private boolean isStreetEnd(int street, int end) {
        return street >= 0 && street < stones.streets() && end >= 0 && end < ENDS;
    }

    private static boolean isLawSet(int set) {
        return set >= 0 && set < LAW_SETS;
    }

    private static boolean isToldYear(int n) {
        return n >= 0 && n <= LAST_TOLD_YEAR;
    }

    private boolean mayTurn(int k) {
        return k == NONE || stones.knows(k) && !stones.isOf(k, FIXED);
    }

    private void passYear(int k) {
        if (k != NONE) nowState = stones.moved(nowState, k);
        nowYear++;
    }

    private int stoneTells(int k, int what) {
        switch (what) {
            case 0: return stones.kinds[k];
            case 1: return Stones.quarters(nowState, k);
            default: return stones.words[SIDES * k + what - 2];
        }
    }

    private int tally(int what) {
        switch (what) {
            case 0: return stones.number();
            case 1: return stones.streets();
            case 2: return book.words.number();
            case 3: return stones.numberOf(WORN);
            case 4: return stones.numberOf(FIXED);
            case 5: return records.number;
            case 6: return rows.number();
            default: return texts.number();
        }
    }

    /** What the latest calls told beside their answers, and the findings. */
    private static final class Told {
        int answer = 0;
        long top = 0;
        long bottom = 1;
        int latest = 0;
        final int[] found = new int[SIZE + 1];

        void note(int finding) {
            if (finding < NOTHING || finding > SIZE) return;
            latest = finding;
            found[finding]++;
        }

        void fraction(long upper, long lower) {
            long divisor = greatestDivisor(upper, lower);
            if (divisor <= 0) return;
            top = upper / divisor;
            bottom = lower / divisor;
        }

        private static long greatestDivisor(long a, long b) {
            long whole = a;
            long rest = b;
            // Euclid's steps on two longs are fewer than a hundred.
            for (int i = 0; i < 200 && rest != 0; i++) {
                long next = whole % rest;
                whole = rest;
                rest = next;
            }
            return whole;
        }
    }

    /** Rows of ints, each of a size of its own or missing; made once and used again. */
    private static final class Table {
        final int longest;
        private final int[][] places;
        private final int[] sizes;

        Table(int rows, int longest) {
            this.longest = longest;
            places = new int[rows][longest];
            sizes = new int[rows];
            Arrays.fill(sizes, MISSING);
        }

        boolean knows(int r) {
            return r >= 0 && r < sizes.length;
        }

        boolean has(int r) {
            return knows(r) && sizes[r] != MISSING;
        }

        int size(int r) {
            return knows(r) ? Math.max(sizes[r], 0) : 0;
        }

        boolean holds(int r, int i, int n) {
            return knows(r) && i >= 0 && n <= sizes[r] - i;
        }

        /** What is in a place; 0, which no town's text asks for, where there is none. */
        int get(int r, int i) {
            return knows(r) && i >= 0 && i < sizes[r] ? places[r][i] : 0;
        }

        void set(int r, int i, int v) {
            if (knows(r) && i >= 0 && i < sizes[r]) places[r][i] = v;
        }

        void begin(int r, int n, int filler) {
            if (!knows(r) || n < 0 || n > longest) return;
            sizes[r] = n;
            Arrays.fill(places[r], 0, n, filler);
        }

        void drop(int r) {
            if (knows(r)) sizes[r] = MISSING;
        }

        void move(int r, int i, int to, int j, int n) {
            if (n < 0 || !holds(r, i, n) || !holds(to, j, n)) return;
            System.arraycopy(places[r], i, places[to], j, n);
        }

        void take(int r, Table other, int from) {
            int n = other.size(from);
            begin(r, n, 0);
            for (int i = 0; i < n; i++) set(r, i, other.get(from, i));
        }

        int number() {
            int there = 0;
            for (int size : sizes) {
                if (size != MISSING) there++;
            }
            return there;
        }

        long fold(long start) {
            long h = start;
            for (int r = 0; r < sizes.length; r++) h = foldPlaces(31 * h + sizes[r], r);
            return h;
        }

        long foldPlaces(long start, int r) {
            long h = start;
            for (int i = 0; i < size(r); i++) h = 31 * h + places[r][i];
            return h;
        }
    }

    /** The stones as they were laid; how far they are turned is told by a state. */
    private static final class Stones {
        int wide = 0;
        int high = 0;
        final int[] kinds = new int[STONES];
        final int[] words = new int[STONES * SIDES];
        /** The worn (or cut) sides; NONE of stones that have none. */
        final int[] sides = new int[STONES];
        final int[] others = new int[STONES];

        void take(Stones from) {
            wide = from.wide;
            high = from.high;
            System.arraycopy(from.kinds, 0, kinds, 0, STONES);
            System.arraycopy(from.words, 0, words, 0, STONES * SIDES);
            System.arraycopy(from.sides, 0, sides, 0, STONES);
            System.arraycopy(from.others, 0, others, 0, STONES);
        }

        int number() {
            return wide * high;
        }

        int streets() {
            return wide + high;
        }

        boolean knows(int k) {
            return k >= 0 && k < number();
        }

        boolean isOf(int k, int kind) {
            int own = kinds[k];
            return own == kind || kind == WORN && own == CUT || kind == FIXED && own == SUNK;
        }

        int numberOf(int kind) {
            int n = 0;
            for (int k = 0; k < number(); k++) {
                if (isOf(k, kind)) n++;
            }
            return n;
        }

        int rowOf(int k) {
            return wide > 0 ? k / wide : 0;
        }

        int sharedStreets() {
            return (wide > 1 ? 1 : 0) + (high > 1 ? 1 : 0);
        }

        int unlikeWords(int k, int sideBits) {
            int seen = 0;
            for (int side = 0; side < SIDES; side++) {
                int word = words[SIDES * k + side];
                if ((sideBits >> side & 1) == 1 && word != GAP) seen |= 1 << word;
            }
            return Integer.bitCount(seen);
        }

        static int quarters(int state, int k) {
            return state >> (2 * k) & 3;
        }

        /** The quarters that one turn adds; 0 if it is never turned. */
        int step(int k) {
            return isOf(k, FIXED) ? 0 : kinds[k] == HALF ? 2 : 1;
        }

        /** The greatest number of turns that lead to something new. */
        int mostTurns(int k) {
            return isOf(k, FIXED) ? 0 : kinds[k] == HALF ? 1 : 3;
        }

        int mostYears() {
            int turns = 0;
            for (int k = 0; k < number(); k++) turns += mostTurns(k);
            return turns;
        }

        int moved(int state, int k) {
            return movedBy(state, k, step(k));
        }

        static int movedBy(int state, int k, int more) {
            int from = quarters(state, k);
            int to = from + more & 3;
            return state + ((to - from) << (2 * k));
        }

        int turnsBetween(int state, int other, int k) {
            int apart = quarters(other, k) - quarters(state, k) & 3;
            return kinds[k] == HALF ? apart / 2 : apart;
        }

        int length(int street) {
            return street < high ? wide : high;
        }

        int stoneAt(int street, int end, int place) {
            int i = end == 0 ? place : length(street) - 1 - place;
            return street < high ? street * wide + i : i * wide + street - high;
        }

        /** The side that a stone without quarters shows to a street's end. */
        int firstSide(int street, int end) {
            return (street < high ? 0 : 1) + 2 * end;
        }

        int sideRead(int state, int k, int street, int end) {
            return quarters(state, k) + firstSide(street, end) & 3;
        }

        int shown(int k, int side) {
            return kinds[k] == SUNK ? GAP : words[SIDES * k + side];
        }

        boolean isMendable(int k, int side) {
            return kinds[k] != SUNK && sides[k] != side;
        }

        /** Bits of the quarters that stones can have; those that are not there have 0 alone. */
        void quartersHad(int[] bits) {
            for (int k = 0; k < STONES && k < bits.length; k++) {
                int most = knows(k) ? mostTurns(k) : 0;
                bits[k] = most == 3 ? 15 : most == 1 ? 5 : 1;
            }
        }

        /** Bits of the quarters in which a stone shows a word (or a gap) to a street's end. */
        int quartersShowing(int k, int first, int word) {
            int bits = 0;
            for (int q = 0; q < 4; q++) {
                if (shown(k, q + first & 3) == word) bits |= 1 << q;
            }
            return bits;
        }

        /** The least turns by which a stone shows a word to a street's end, or NONE. */
        int turnsTo(int k, int seen, int word) {
            for (int t = 0; t <= mostTurns(k); t++) {
                if (shown(k, seen + t * step(k) & 3) == word) return t;
            }
            return NONE;
        }
    }

    /** Reads a town from a text, place by place, until it can't go on. */
    private static final class TownReader {
        private final Table texts;
        private final Stones into;
        private int text = 0;
        private int place = 0;
        private int value = 0;

        TownReader(Table texts, Stones into) {
            this.texts = texts;
            this.into = into;
        }

        int faultOf(int t) {
            text = t;
            place = 0;
            return readSize() && readStones() && readEnd() ? NONE : place;
        }

        private boolean readSize() {
            skipBlanks();
            if (!readSign('g', 'g') || !readSign('1', '3')) return false;
            into.wide = value + 1;
            if (!readSign('1', '2')) return false;
            into.high = value + 1;
            return true;
        }

        private boolean readStones() {
            for (int k = 0; k < into.number(); k++) {
                skipBlanks();
                if (!readKind(k) || !readWords(k) || !readSide(k)) return false;
            }
            return true;
        }

        private boolean readEnd() {
            skipBlanks();
            return place >= texts.size(text);
        }

        private boolean readKind(int k) {
            int kind = kindOf(texts.get(text, place));
            if (kind == NONE) return false;
            into.kinds[k] = kind;
            place++;
            return true;
        }

        private boolean readWords(int k) {
            for (int side = 0; side < SIDES; side++) {
                if (!readSign('a', 'h')) return false;
                into.words[SIDES * k + side] = value;
            }
            return true;
        }

        private boolean readSide(int k) {
            into.sides[k] = NONE;
            if (!into.isOf(k, WORN)) return true;
            if (!readSign('0', '3')) return false;
            into.sides[k] = value;
            if (into.kinds[k] == CUT) {
                into.words[SIDES * k + value] = GAP;
                return true;
            }
            if (!readSign('a', 'h')) return false;
            into.others[k] = value;
            return true;
        }

        private static int kindOf(int sign) {
            switch (sign) {
                case 's': return 0;
                case 'x': return WORN;
                case 'f': return FIXED;
                case 'h': return HALF;
                case 'c': return CUT;
                case 'u': return SUNK;
                default: return NONE;
            }
        }

        private boolean readSign(int first, int last) {
            int sign = texts.get(text, place);
            if (sign < first || sign > last) return false;
            value = sign - first;
            place++;
            return true;
        }

        private void skipBlanks() {
            while (place < texts.size(text) && texts.get(text, place) == BLANK) place++;
        }
    }

    /**
     * States as bits: the quarters of stones 0 to 2 choose the bit of a long, those of stones 3 to 5
     * the long, so that a turn of a stone moves all states of a set at once.
     */
    private static final class StateSet {
        private static final long[] FIRST = {0x1111111111111111L, 0x000F000F000F000FL, 0xFFFFL};
        private static final int INNER = 3;
        private final long[] bits = new long[LONGS];

        void clear() {
            Arrays.fill(bits, 0L);
        }

        void take(StateSet other) {
            System.arraycopy(other.bits, 0, bits, 0, LONGS);
        }

        void only(int state) {
            clear();
            if (state >= 0 && state < STATES) bits[state >> 6] = 1L << (state & 63);
        }

        boolean has(int state) {
            return state >= 0 && state < STATES && (bits[state >> 6] >>> (state & 63) & 1L) == 1L;
        }

        boolean isEmpty() {
            for (int i = 0; i < LONGS; i++) {
                if (bits[i] != 0L) return false;
            }
            return true;
        }

        int size() {
            int n = 0;
            for (int i = 0; i < LONGS; i++) n += Long.bitCount(bits[i]);
            return n;
        }

        boolean meets(StateSet other) {
            return leastWith(other) != NONE;
        }

        boolean isWithin(StateSet other) {
            for (int i = 0; i < LONGS; i++) {
                if ((bits[i] & ~other.bits[i]) != 0L) return false;
            }
            return true;
        }

        /** The least state of both sets, or NONE. */
        int leastWith(StateSet other) {
            for (int i = 0; i < LONGS; i++) {
                long both = bits[i] & other.bits[i];
                if (both != 0L) return 64 * i + Long.bitCount(both - 1 & ~both);
            }
            return NONE;
        }

        void meet(StateSet other) {
            for (int i = 0; i < LONGS; i++) bits[i] &= other.bits[i];
        }

        void meetMoved(StateSet other, int k, int quarters) {
            for (int i = 0; i < LONGS; i++) bits[i] &= other.moved(i, k, quarters);
        }

        void joinMoved(StateSet other, int k, int quarters) {
            for (int i = 0; i < LONGS; i++) bits[i] |= other.moved(i, k, quarters);
        }

        boolean meetsMoved(StateSet other, int k, int quarters) {
            for (int i = 0; i < LONGS; i++) {
                if ((bits[i] & other.moved(i, k, quarters)) != 0L) return true;
            }
            return false;
        }

        /** Joins the states whose quarters are, stone by stone, among those told by bits. */
        void joinProduct(int[] quarterBits) {
            long inner = pattern(quarterBits, 0);
            long outer = pattern(quarterBits, INNER);
            for (int i = 0; i < LONGS; i++) {
                if ((outer >>> i & 1L) == 1L) bits[i] |= inner;
            }
        }

        private static long pattern(int[] quarterBits, int firstStone) {
            long all = -1L;
            for (int j = 0; j < INNER && firstStone + j < quarterBits.length; j++) {
                long one = 0L;
                for (int q = 0; q < 4; q++) {
                    if ((quarterBits[firstStone + j] >> q & 1) == 1) one |= FIRST[j] << (q << (2 * j));
                }
                all &= one;
            }
            return all;
        }

        /** Long i of what this set becomes when a stone gets some quarters more (1 to 3). */
        private long moved(int i, int k, int quarters) {
            if (k >= INNER) {
                int shift = 2 * (k - INNER);
                int to = i >> shift & 3;
                int from = to - quarters & 3;
                return bits[i + ((from - to) << shift)];
            }
            int size = 1 << (2 * k);
            long over = 0L;
            for (int q = 4 - quarters; q < 4; q++) over |= FIRST[k] << (q * size);
            long rising = (bits[i] & ~over) << (quarters * size);
            return rising | (bits[i] & over) >>> ((4 - quarters) * size);
        }
    }

    /** The laws, where they are read, and the states in which they stand. */
    private static final class LawBook {
        final Table words = new Table(LAWS, LAW_SIZE);
        final StateSet[] standing = new StateSet[LAWS];
        int mendedYears = 0;
        private final Stones stones;
        private final int[] quarterBits = new int[STONES];

        LawBook(Stones stones) {
            this.stones = stones;
            for (int l = 0; l < LAWS; l++) standing[l] = new StateSet();
        }

        void rebuildAll() {
            for (int l = 0; l < LAWS; l++) rebuild(l);
        }

        /** The states in which a law stands, anew, for another law or other stones. */
        void rebuild(int l) {
            standing[l].clear();
            if (!words.has(l)) return;
            for (int street = 0; street < stones.streets(); street++) {
                for (int end = 0; end < ENDS; end++) joinStreet(l, street, end);
            }
        }

        private void joinStreet(int l, int street, int end) {
            int first = stones.firstSide(street, end);
            for (int start = 0; start <= lastStart(l, street); start++) {
                stones.quartersHad(quarterBits);
                for (int i = 0; i < words.size(l); i++) {
                    int k = stones.stoneAt(street, end, start + i);
                    quarterBits[k] &= stones.quartersShowing(k, first, words.get(l, i));
                }
                standing[l].joinProduct(quarterBits);
            }
        }

        private int lastStart(int l, int street) {
            return stones.length(street) - words.size(l);
        }

        int standingIn(int state) {
            int set = 0;
            for (int l = 0; l < LAWS; l++) {
                if (standing[l].has(state)) set |= 1 << l;
            }
            return set;
        }

        int level(int l, int state) {
            int best = UNREAD;
            for (int street = 0; street < stones.streets(); street++) {
                for (int end = 0; end < ENDS; end++) best = Math.max(best, levelIn(l, state, street, end));
            }
            return best;
        }

        /** In how many streets and ends together a law stands by the words as they were laid. */
        int readings(int l, int state) {
            int n = 0;
            for (int street = 0; street < stones.streets(); street++) {
                for (int end = 0; end < ENDS; end++) {
                    if (levelIn(l, state, street, end) >= AS_LAID) n++;
                }
            }
            return n;
        }

        private int levelIn(int l, int state, int street, int end) {
            int best = UNREAD;
            for (int start = 0; start <= lastStart(l, street); start++) {
                best = Math.max(best, levelAt(l, state, street, end, start));
            }
            return best;
        }

        private int levelAt(int l, int state, int street, int end, int start) {
            int least = SURELY;
            for (int i = 0; i < words.size(l); i++) {
                int k = stones.stoneAt(street, end, start + i);
                int side = stones.sideRead(state, k, street, end);
                least = Math.min(least, wordLevel(k, side, words.get(l, i)));
            }
            return least;
        }

        private int wordLevel(int k, int side, int word) {
            boolean worn = stones.sides[k] == side;
            if (stones.shown(k, side) == word) return worn ? AS_LAID : SURELY;
            return worn && stones.kinds[k] == WORN && stones.others[k] == word ? PERHAPS : UNREAD;
        }

        /** The least years until a law stands, or NONE; stones that it isn't read of stay. */
        int leastYears(int l, int state) {
            int least = NONE;
            for (int street = 0; street < stones.streets(); street++) {
                for (int end = 0; end < ENDS; end++) {
                    for (int start = 0; start <= lastStart(l, street); start++) {
                        int turns = turnsAt(l, state, street, end, start);
                        if (turns != NONE && (least == NONE || turns < least)) least = turns;
                    }
                }
            }
            return least;
        }

        private int turnsAt(int l, int state, int street, int end, int start) {
            int sum = 0;
            for (int i = 0; i < words.size(l); i++) {
                int k = stones.stoneAt(street, end, start + i);
                int turns = stones.turnsTo(k, stones.sideRead(state, k, street, end), words.get(l, i));
                if (turns == NONE) return NONE;
                sum += turns;
            }
            return sum;
        }

        /** The least word that a side would have so that a law can be had, or NONE. */
        int mendingWord(int l, int state, int k, int side) {
            int place = SIDES * k + side;
            int was = stones.words[place];
            int mending = NONE;
            for (int word = 0; word < WORDS && mending == NONE; word++) {
                // Only a word of the law can help it.
                if (!hasWord(l, word)) continue;
                stones.words[place] = word;
                mendedYears = leastYears(l, state);
                if (mendedYears != NONE) mending = word;
            }
            stones.words[place] = was;
            return mending;
        }

        private boolean hasWord(int l, int word) {
            for (int i = 0; i < words.size(l); i++) {
                if (words.get(l, i) == word) return true;
            }
            return false;
        }
    }

    /** What one who turns can have: the states that can be had, the way to them, and against another. */
    private static final class Wants {
        int reached = 0;
        int opening = NONE;
        private final Stones stones;
        private final LawBook book;
        private final StateSet goal = new StateSet();
        private final StateSet near = new StateSet();
        private final StateSet next = new StateSet();
        private final int[] quarterBits = new int[STONES];

        Wants(Stones stones, LawBook book) {
            this.stones = stones;
            this.book = book;
        }

        /** The states that can be had in which all laws of a set stand. */
        StateSet goalOf(int set) {
            stones.quartersHad(quarterBits);
            goal.clear();
            goal.joinProduct(quarterBits);
            for (int l = 0; l < LAWS; l++) {
                if ((set >> l & 1) == 1) goal.meet(book.standing[l]);
            }
            return goal;
        }

        /** The least years until all laws of a set stand, or NONE; the state there is then reached. */
        int leastYears(int state, int set) {
            if (goalOf(set).isEmpty()) return NONE;
            near.only(state);
            for (int n = 0; n <= stones.mostYears(); n++) {
                int least = near.leastWith(goal);
                if (least != NONE) {
                    reached = least;
                    return n;
                }
                next.take(near);
                for (int k = 0; k < stones.number(); k++) {
                    if (stones.step(k) > 0) next.joinMoved(near, k, stones.step(k));
                }
                near.take(next);
            }
            return NONE;
        }

        /** Whether the first one can make a law stand behind n years; how he should begin is the opening. */
        boolean isWon(int l, int n, int state) {
            near.take(book.standing[l]);
            // What is won ahead of a year follows from what is won behind it.
            for (int i = n; i >= 2; i--) {
                next.take(near);
                for (int k = 0; k < stones.number(); k++) {
                    if (stones.step(k) > 0) reckonTurn(k, i % 2 == 1);
                }
                near.take(next);
            }
            opening = NONE;
            if (n == 0) return near.has(state);
            for (int k = 0; k < stones.number(); k++) {
                if (stones.step(k) > 0 && near.has(stones.moved(state, k))) {
                    opening = k;
                    return true;
                }
            }
            return near.has(state);
        }

        private void reckonTurn(int k, boolean byFirst) {
            int back = 4 - stones.step(k);
            if (byFirst) next.joinMoved(near, k, back);
            else next.meetMoved(near, k, back);
        }
    }

    /** The engravings, in the order in which they were laid. */
    private static final class Records {
        int number = 0;
        private final Stones stones;
        private final int[] years = new int[ENGRAVINGS];
        private final int[] streets = new int[ENGRAVINGS];
        private final int[] ends = new int[ENGRAVINGS];
        private final Table words = new Table(ENGRAVINGS, STREET_SIZE);

        Records(Stones stones) {
            this.stones = stones;
        }

        int add(int year, int street, int end, Table rows, int r) {
            if (number < 0 || number >= ENGRAVINGS) return FULL;
            years[number] = year;
            streets[number] = street;
            ends[number] = end;
            words.take(number, rows, r);
            return number++;
        }

        void dropFrom(int n) {
            if (n >= 0 && n < number) number = n;
        }

        /** Takes from each stone's quarters those that don't fit what is told of a year. */
        void meetFitting(int year, int[] quarterBits) {
            for (int e = 0; e < number && e < ENGRAVINGS; e++) {
                if (years[e] == year) meetEngraving(e, quarterBits);
            }
        }

        private void meetEngraving(int e, int[] quarterBits) {
            int first = stones.firstSide(streets[e], ends[e]);
            for (int i = 0; i < words.size(e); i++) {
                int k = stones.stoneAt(streets[e], ends[e], i);
                quarterBits[k] &= stones.quartersShowing(k, first, words.get(e, i));
            }
        }

        /** The last year up to n of which an engraving tells; 0 if there is none. */
        int lastTold(int n) {
            int last = 0;
            for (int e = 0; e < number && e < ENGRAVINGS; e++) {
                if (years[e] <= n) last = Math.max(last, years[e]);
            }
            return last;
        }

        long fold(long start) {
            long h = start;
            for (int e = 0; e < number && e < ENGRAVINGS; e++) {
                h = 31 * h + years[e];
                h = 31 * h + streets[e];
                h = words.foldPlaces(31 * h + ends[e], e);
            }
            return h;
        }
    }

    /** All histories that fit the engravings. */
    private static final class Past {
        /** Behind isTold(n): of each year to n the states that it has in some history. */
        final StateSet[] live = new StateSet[LAST_TOLD_YEAR + 1];
        private final Stones stones;
        private final Records records;
        private final StateSet spare = new StateSet();
        private final int[] quarterBits = new int[STONES];
        private int[] ways = new int[STATES];
        private int[] nextWays = new int[STATES];

        Past(Stones stones, Records records) {
            this.stones = stones;
            this.records = records;
            for (int k = 0; k <= LAST_TOLD_YEAR; k++) live[k] = new StateSet();
        }

        /** Whether there is a history of n years. */
        boolean isTold(int n) {
            live[0].only(0);
            meetFitting(0);
            for (int k = 1; k <= n; k++) {
                live[k].take(live[k - 1]);
                for (int s = 0; s < stones.number(); s++) {
                    if (stones.step(s) > 0) live[k].joinMoved(live[k - 1], s, stones.step(s));
                }
                meetFitting(k);
            }
            // What leads nowhere in a later year was in no history.
            for (int k = n; k >= 1; k--) meetAhead(k);
            return !live[n].isEmpty();
        }

        private void meetFitting(int k) {
            stones.quartersHad(quarterBits);
            records.meetFitting(k, quarterBits);
            spare.clear();
            spare.joinProduct(quarterBits);
            live[k].meet(spare);
        }

        private void meetAhead(int k) {
            spare.take(live[k]);
            for (int s = 0; s < stones.number(); s++) {
                if (stones.step(s) > 0) spare.joinMoved(live[k], s, 4 - stones.step(s));
            }
            live[k - 1].meet(spare);
        }

        /** Bits of the stones that get a turn in year k in some history. */
        int turnedInto(int k) {
            int set = 0;
            for (int s = 0; s < stones.number(); s++) {
                int step = stones.step(s);
                if (step > 0 && live[k].meetsMoved(live[k - 1], s, step)) set |= 1 << s;
            }
            return set;
        }

        int allWays(int n) {
            return waysTo(n, records.lastTold(n), NONE, spare);
        }

        /** How many histories of n years have one of those states in a year. */
        int waysBy(int n, int year, StateSet those) {
            return waysTo(n, Math.max(year, records.lastTold(n)), year, those);
        }

        private int waysTo(int n, int last, int year, StateSet those) {
            int states = 1 << (2 * stones.number());
            Arrays.fill(ways, 0, states, 0);
            ways[0] = 1;
            for (int k = 0; k <= last; k++) {
                if (k > 0) spread(states);
                keepOnly(live[k], states);
                if (k == year) keepOnly(those, states);
            }
            int sum = 0;
            for (int state = 0; state < states; state++) sum += ways[state];
            int choices = 1 + stones.number() - stones.numberOf(FIXED);
            // Behind the last year that is looked at every turn fits.
            for (int k = last; k < n; k++) sum *= choices;
            return sum;
        }

        private void spread(int states) {
            System.arraycopy(ways, 0, nextWays, 0, states);
            for (int s = 0; s < stones.number(); s++) {
                if (stones.step(s) > 0) spreadTurned(states, s, stones.step(s));
            }
            int[] before = ways;
            ways = nextWays;
            nextWays = before;
        }

        private void spreadTurned(int states, int s, int more) {
            for (int state = 0; state < states; state++) {
                if (ways[state] != 0) nextWays[Stones.movedBy(state, s, more)] += ways[state];
            }
        }

        private void keepOnly(StateSet those, int states) {
            for (int state = 0; state < states; state++) {
                if (ways[state] != 0 && !those.has(state)) ways[state] = 0;
            }
        }
    }
}
