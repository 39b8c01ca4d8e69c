import java.math.BigInteger;
import java.util.ArrayList;
import java.util.Arrays;
import java.util.List;
import java.util.Random;
import java.util.TreeMap;

/** Runs of calls drawn by a fixed seed, against a plain second program that tries everything out. */
public final class ModelTests {
    private static final int BAD = -1, FULL = -2, FINDING = -3, STATE = -4, SPENT = -6, NONE = -9;
    private static final int NOTHING = 1, BEYOND = 2, UNLIKE = 3, NOUGHT = 4, SIZE = 5;
    private static final String KINDS = "sxfhcu";

    private static final class Stone {
        int kind;
        int side = -1;
        int other = -1;
        int[] words = new int[4];

        boolean is(int what) {
            return kind == what || what == 1 && kind == 4 || what == 2 && kind == 5;
        }
    }

    private static final class Engraving {
        int year, street, end;
        int[] words;
    }

    /** The document, call by call, in the plainest form. */
    private static final class Model {
        int[][] rows = new int[6][];
        byte[][] texts = new byte[4][];
        int[][] laws = new int[4][];
        int wide, high, year;
        List<Stone> stones = new ArrayList<>();
        int[] q = new int[0];
        int[][] keptQ = new int[3][];
        int[] keptYear = new int[3];
        List<Engraving> engravings = new ArrayList<>();
        int asked, finding;
        BigInteger upper = BigInteger.ZERO, lower = BigInteger.ONE;
        int[] findings = new int[6];

        int find(int f) {
            finding = f;
            findings[f]++;
            return FINDING;
        }

        static boolean in(int v, int from, int to) {
            return v >= from && v <= to;
        }

        int row(int r, int n) {
            if (!in(r, 0, 5) || n > 60) return BAD;
            if (n < 0) return find(SIZE);
            rows[r] = new int[n];
            return n;
        }

        int lay(int r, int i, int v) {
            int got = at(r, i);
            if (got == 1) rows[r][i] = v;
            return got;
        }

        int at(int r, int i) {
            if (!in(r, 0, 5)) return BAD;
            if (rows[r] == null) return find(NOTHING);
            if (!in(i, 0, rows[r].length - 1)) return find(BEYOND);
            asked = rows[r][i];
            return 1;
        }

        int tear(int r) {
            if (!in(r, 0, 5)) return BAD;
            if (rows[r] == null) return find(NOTHING);
            rows[r] = null;
            return 1;
        }

        int copy(int r, int i, int to, int j, int n) {
            if (!in(r, 0, 5) || !in(to, 0, 5)) return BAD;
            if (n < 0) return find(SIZE);
            if (rows[r] == null || rows[to] == null) return find(NOTHING);
            if (i < 0 || j < 0 || (long) i + n > rows[r].length || (long) j + n > rows[to].length) return find(BEYOND);
            int[] taken = Arrays.copyOfRange(rows[r], i, i + n);
            for (int k = 0; k < n; k++) rows[to][j + k] = taken[k];
            return 1;
        }

        int mean(int r) {
            if (!in(r, 0, 5)) return BAD;
            if (rows[r] == null) return find(NOTHING);
            if (rows[r].length == 0) return find(NOUGHT);
            BigInteger sum = BigInteger.ZERO;
            for (int v : rows[r]) sum = sum.add(BigInteger.valueOf(v));
            asked = sum.divide(BigInteger.valueOf(rows[r].length)).intValueExact();
            return 1;
        }

        int text(int t, int n) {
            if (!in(t, 0, 3) || n > 80) return BAD;
            if (n < 0) return find(SIZE);
            texts[t] = new byte[n];
            Arrays.fill(texts[t], (byte) 32);
            return n;
        }

        int put(int t, int i, int v) {
            if (!in(t, 0, 3)) return BAD;
            if (texts[t] == null) return find(NOTHING);
            if (!in(i, 0, texts[t].length - 1)) return find(BEYOND);
            int was = texts[t][i];
            texts[t][i] = (byte) v;
            return was + 1000;
        }

        /** What may come within the item that was begun, as texts of signs, one for each place. */
        static String[] restOf(char letter) {
            String w = "abcdefgh";
            if (letter == 'g') return new String[] {"123", "12"};
            if (letter == 'x') return new String[] {w, w, w, w, "0123", w};
            if (letter == 'c') return new String[] {w, w, w, w, "0123"};
            return new String[] {w, w, w, w};
        }

        int fault(int t) {
            if (!in(t, 0, 3)) return BAD;
            if (texts[t] == null) return find(NOTHING);
            byte[] b = texts[t];
            int items = 0;
            int due = -1;
            int i = 0;
            while (i < b.length) {
                if (b[i] == 32) {
                    i++;
                    continue;
                }
                if (items == due + 1 && due > 0) return i;
                char letter = (char) (b[i] & 255);
                if ((items == 0 ? "g" : KINDS).indexOf(letter) < 0) return i;
                int start = i++;
                for (String allowed : restOf(items == 0 ? 'g' : letter)) {
                    if (i >= b.length) return b.length;
                    if (b[i] < 0 || allowed.indexOf((char) b[i]) < 0) return i;
                    i++;
                }
                if (items == 0) due = (b[start + 1] - 48) * (b[start + 2] - 48);
                items++;
            }
            return items == due + 1 && due > 0 ? NONE : b.length;
        }

        int town(int t) {
            if (!in(t, 0, 3)) return BAD;
            if (texts[t] == null) return find(NOTHING);
            if (fault(t) != NONE) return STATE;
            StringBuilder all = new StringBuilder();
            for (byte c : texts[t]) if (c != 32) all.append((char) c);
            wide = all.charAt(1) - '0';
            high = all.charAt(2) - '0';
            stones = new ArrayList<>();
            int i = 3;
            while (i < all.length()) {
                Stone s = new Stone();
                s.kind = KINDS.indexOf(all.charAt(i++));
                for (int side = 0; side < 4; side++) s.words[side] = all.charAt(i++) - 'a';
                if (s.is(1)) s.side = all.charAt(i++) - '0';
                if (s.kind == 1) s.other = all.charAt(i++) - 'a';
                if (s.kind == 4) s.words[s.side] = -1;
                stones.add(s);
            }
            q = new int[stones.size()];
            year = 0;
            keptQ = new int[3][];
            engravings.clear();
            return stones.size();
        }

        int stone(int k, int what) {
            if (!in(k, 0, stones.size() - 1) || !in(what, 0, 5)) return BAD;
            asked = stoneWhat(k, what);
            return 1;
        }

        int stoneWhat(int k, int what) {
            return what == 0 ? stones.get(k).kind : what == 1 ? q[k] : stones.get(k).words[what - 2];
        }

        int mark(int k, int kind) {
            if (!in(k, 0, stones.size() - 1) || !in(kind, 1, 5)) return BAD;
            Stone s = stones.get(k);
            if (!s.is(kind)) return find(UNLIKE);
            if (kind == 1) return s.side;
            if (kind == 5) return k / wide;
            if (kind == 2) {
                int n = 0;
                for (int[] street : streets()) {
                    boolean lies = false;
                    for (int c : street) lies |= c == k;
                    if (lies && street.length > 1) n++;
                }
                return n;
            }
            java.util.TreeSet<Integer> unlike = new java.util.TreeSet<>();
            for (int side = 0; side < 4; side++) {
                if (kind == 3 ? side % 2 == 0 : side != s.side) unlike.add(s.words[side]);
            }
            return unlike.size();
        }

        int law(int l, int r) {
            if (!in(l, 0, 3) || !in(r, 0, 5)) return BAD;
            if (rows[r] == null) return find(NOTHING);
            if (!in(rows[r].length, 1, 3)) return find(SIZE);
            for (int v : rows[r]) if (!in(v, 0, 7)) return find(UNLIKE);
            laws[l] = rows[r].clone();
            return laws[l].length;
        }

        List<int[]> streets() {
            List<int[]> all = new ArrayList<>();
            for (int y = 0; y < high; y++) {
                int[] s = new int[wide];
                for (int x = 0; x < wide; x++) s[x] = y * wide + x;
                all.add(s);
            }
            for (int x = 0; x < wide; x++) {
                int[] s = new int[high];
                for (int y = 0; y < high; y++) s[y] = y * wide + x;
                all.add(s);
            }
            return all;
        }

        /** How worn sides are taken: as laid, as gaps, or by the other words of the places told by bits. */
        int[] read(int[] quarters, int street, int end, boolean wornAsGaps, int otherBits) {
            int[] cells = streets().get(street);
            int n = cells.length;
            int[] got = new int[n];
            for (int i = 0; i < n; i++) {
                int k = end == 0 ? cells[i] : cells[n - 1 - i];
                Stone s = stones.get(k);
                int side = (quarters[k] + (street < high ? 0 : 1) + 2 * end) % 4;
                got[i] = s.kind == 5 ? -1 : s.words[side];
                if (s.is(1) && s.side == side) {
                    if (wornAsGaps) got[i] = -1;
                    else if (s.kind == 1 && (otherBits >> i & 1) == 1) got[i] = s.other;
                }
            }
            return got;
        }

        static boolean holds(int[] reading, int[] law) {
            for (int start = 0; start + law.length <= reading.length; start++) {
                if (Arrays.equals(Arrays.copyOfRange(reading, start, start + law.length), law)) return true;
            }
            return false;
        }

        int standCount(int[] quarters, int l, boolean wornAsGaps, int otherBits) {
            int n = 0;
            if (laws[l] == null) return 0;
            for (int street = 0; street < wide + high; street++) {
                for (int end = 0; end < 2; end++) {
                    if (holds(read(quarters, street, end, wornAsGaps, otherBits), laws[l])) n++;
                }
            }
            return n;
        }

        boolean standsIn(int[] quarters, int l) {
            return standCount(quarters, l, false, 0) > 0;
        }

        boolean perhaps(int[] quarters, int l) {
            for (int bits = 0; bits < 8; bits++) if (standCount(quarters, l, false, bits) > 0) return true;
            return false;
        }

        int reads(int street, int end, int r) {
            if (!in(street, 0, wide + high - 1) || !in(end, 0, 1) || !in(r, 0, 5)) return BAD;
            rows[r] = read(q, street, end, false, 0);
            int n = 0;
            for (int v : rows[r]) if (v >= 0) n++;
            return n;
        }

        int stands(int l) {
            if (!in(l, 0, 3)) return BAD;
            if (laws[l] == null) return find(NOTHING);
            asked = standCount(q, l, false, 0);
            if (standCount(q, l, true, 0) > 0) return 2;
            return perhaps(q, l) ? 1 : 0;
        }

        int mask(int[] quarters) {
            int m = 0;
            for (int l = 0; l < 4; l++) if (standsIn(quarters, l)) m |= 1 << l;
            return m;
        }

        int laws() {
            asked = 0;
            for (int l = 0; l < 4; l++) if (perhaps(q, l)) asked |= 1 << l;
            return mask(q);
        }

        int[] after(int[] quarters, int k) {
            int[] next = quarters.clone();
            if (k != NONE) next[k] = (next[k] + (stones.get(k).kind == 3 ? 2 : 1)) % 4;
            return next;
        }

        boolean turnable(int k) {
            return k == NONE || in(k, 0, stones.size() - 1) && !stones.get(k).is(2);
        }

        int turn(int k) {
            if (k != NONE && !in(k, 0, stones.size() - 1)) return BAD;
            if (!turnable(k)) return find(UNLIKE);
            if (year + 1 > 999) return SPENT;
            q = after(q, k);
            return ++year;
        }

        int till(int r, int l) {
            if (!in(r, 0, 5) || !in(l, 0, 3)) return BAD;
            if (laws[l] == null || rows[r] == null) return find(NOTHING);
            for (int k : rows[r]) if (!turnable(k)) return find(UNLIKE);
            if (year + rows[r].length > 999) return SPENT;
            int n = 0;
            if (standsIn(q, l)) return 0;
            for (int k : rows[r]) {
                q = after(q, k);
                year++;
                n++;
                if (standsIn(q, l)) return n;
            }
            return NONE;
        }

        int keep(int k) {
            if (!in(k, 0, 2)) return BAD;
            if (stones.isEmpty()) return STATE;
            keptQ[k] = q.clone();
            keptYear[k] = year;
            return year;
        }

        int on(int k) {
            if (!in(k, 0, 2)) return BAD;
            if (keptQ[k] == null) return find(NOTHING);
            q = keptQ[k].clone();
            year = keptYear[k];
            return year;
        }

        static int number(int[] quarters) {
            int n = 0;
            for (int k = quarters.length - 1; k >= 0; k--) n = 4 * n + quarters[k];
            return n;
        }

        int[] quartersOf(int state) {
            int[] quarters = new int[stones.size()];
            for (int k = 0; k < quarters.length; k++) {
                quarters[k] = state % 4;
                state /= 4;
            }
            return quarters;
        }

        int state() {
            asked = year;
            return number(q);
        }

        /** All states that can be had from a state, with the least years. */
        TreeMap<Integer, Integer> had() {
            TreeMap<Integer, Integer> years = new TreeMap<>();
            List<int[]> queue = new ArrayList<>();
            queue.add(q);
            years.put(number(q), 0);
            for (int i = 0; i < queue.size(); i++) {
                int[] from = queue.get(i);
                for (int k = 0; k < stones.size(); k++) {
                    if (!turnable(k)) continue;
                    int[] to = after(from, k);
                    if (years.putIfAbsent(number(to), years.get(number(from)) + 1) == null) queue.add(to);
                }
            }
            return years;
        }

        /** The nearest, least state in which the laws stand together, and its years; or nothing. */
        int[] nearest(int set) {
            int[] best = null;
            TreeMap<Integer, Integer> had = had();
            for (int state : had.keySet()) {
                int n = had.get(state);
                if (best != null && n >= best[1]) continue;
                if ((mask(quartersOf(state)) & set) == set) best = new int[] {state, n};
            }
            return best;
        }

        int years(int set) {
            if (!in(set, 0, 15)) return BAD;
            int[] best = nearest(set);
            if (best == null) return NONE;
            asked = best[0];
            return best[1];
        }

        List<Integer> wayTo(int state) {
            List<Integer> turns = new ArrayList<>();
            int[] to = quartersOf(state);
            int[] at = q;
            for (int k = 0; k < to.length; k++) {
                while (at[k] != to[k]) {
                    at = after(at, k);
                    turns.add(k);
                }
            }
            return turns;
        }

        int way(int set, int r) {
            if (!in(set, 0, 15) || !in(r, 0, 5)) return BAD;
            int[] best = nearest(set);
            if (best == null) return NONE;
            rows[r] = wayTo(best[0]).stream().mapToInt(k -> k).toArray();
            return rows[r].length;
        }

        int lost(int set) {
            if (!in(set, 0, 15)) return BAD;
            int[] best = nearest(set);
            if (best == null) return NONE;
            asked = mask(q);
            int[] at = q;
            for (int k : wayTo(best[0])) {
                at = after(at, k);
                asked &= mask(at);
            }
            return mask(q) & ~mask(at);
        }

        void fraction(BigInteger a, BigInteger b) {
            BigInteger g = a.gcd(b);
            upper = a.divide(g);
            lower = b.divide(g);
        }

        int share(int set) {
            if (!in(set, 0, 15)) return BAD;
            if (stones.isEmpty()) return STATE;
            int n = 0;
            TreeMap<Integer, Integer> had = had();
            for (int state : had.keySet()) if ((mask(quartersOf(state)) & set) == set) n++;
            fraction(BigInteger.valueOf(n), BigInteger.valueOf(had.size()));
            return n;
        }

        int together() {
            int best = 0;
            asked = 0;
            for (int state : had().keySet()) {
                int m = mask(quartersOf(state));
                int n = Integer.bitCount(m);
                if (n > best || n == best && m < asked) {
                    best = n;
                    asked = m;
                }
            }
            return best;
        }

        int mend(int l) {
            if (!in(l, 0, 3)) return BAD;
            if (laws[l] == null) return find(NOTHING);
            if (nearest(1 << l) != null) return STATE;
            for (int k = 0; k < stones.size(); k++) {
                Stone s = stones.get(k);
                for (int side = 0; side < 4; side++) {
                    if (s.kind == 5 || s.is(1) && s.side == side) continue;
                    int was = s.words[side];
                    for (int word = 0; word < 8; word++) {
                        s.words[side] = word;
                        int[] best = nearestOf(l);
                        s.words[side] = was;
                        if (best == null) continue;
                        asked = best[1];
                        return 100 * k + 10 * side + word;
                    }
                }
            }
            return NONE;
        }

        int[] nearestOf(int l) {
            int[] best = null;
            TreeMap<Integer, Integer> had = had();
            for (int state : had.keySet()) {
                int n = had.get(state);
                if ((best == null || n < best[1]) && standsIn(quartersOf(state), l)) best = new int[] {state, n};
            }
            return best;
        }

        int contest(int l, int n) {
            if (!in(l, 0, 3) || !in(n, 0, 12)) return BAD;
            if (laws[l] == null) return find(NOTHING);
            Boolean[][] memo = new Boolean[13][1 << (2 * stones.size())];
            asked = NONE;
            if (n == 0) return standsIn(q, l) ? 1 : 0;
            for (int k = 0; k <= stones.size(); k++) {
                int by = k == stones.size() ? NONE : k;
                if (turnable(by) && made(after(q, by), 2, n, l, memo)) {
                    asked = by;
                    return 1;
                }
            }
            return 0;
        }

        boolean made(int[] at, int ahead, int n, int l, Boolean[][] memo) {
            if (ahead > n) return standsIn(at, l);
            int state = number(at);
            if (memo[ahead][state] != null) return memo[ahead][state];
            boolean first = ahead % 2 == 1;
            boolean won = !first;
            for (int k = -1; k < stones.size(); k++) {
                int by = k == -1 ? NONE : k;
                if (turnable(by) && made(after(at, by), ahead + 1, n, l, memo) == first) won = first;
            }
            memo[ahead][state] = won;
            return won;
        }

        int engrave(int year, int street, int end, int r) {
            if (!in(year, 0, 9) || !in(street, 0, wide + high - 1) || !in(end, 0, 1) || !in(r, 0, 5)) return BAD;
            if (rows[r] == null) return find(NOTHING);
            if (rows[r].length != streets().get(street).length) return find(SIZE);
            for (int v : rows[r]) if (!in(v, -1, 7)) return find(UNLIKE);
            if (engravings.size() == 4) return FULL;
            Engraving e = new Engraving();
            e.year = year;
            e.street = street;
            e.end = end;
            e.words = rows[r].clone();
            engravings.add(e);
            return engravings.size() - 1;
        }

        int lose(int n) {
            if (!in(n, 0, engravings.size())) return BAD;
            int lost = engravings.size() - n;
            while (engravings.size() > n) engravings.remove(n);
            return lost;
        }

        /** What a history must have, beside what the engravings tell: a law in a year, a turn in a year. */
        int lawYear, lawNumber, turnYear, turnStone;

        BigInteger ways(int n, int inLawYear, int law, int inTurnYear, int stone) {
            lawYear = inLawYear;
            lawNumber = law;
            turnYear = inTurnYear;
            turnStone = stone;
            return BigInteger.valueOf(waysOn(new int[stones.size()], 0, n, new Long[10][1 << (2 * stones.size())]));
        }

        long waysOn(int[] at, int k, int n, Long[][] memo) {
            int state = number(at);
            if (memo[k][state] != null) return memo[k][state];
            long sum = 0;
            boolean fits = k != lawYear || standsIn(at, lawNumber);
            for (Engraving e : engravings) {
                if (e.year == k && !Arrays.equals(read(at, e.street, e.end, false, 0), e.words)) fits = false;
            }
            if (fits && k == n) sum = 1;
            for (int i = -1; fits && k < n && i < stones.size(); i++) {
                int by = i == -1 ? NONE : i;
                if (!turnable(by) || turnYear == k + 1 && turnStone != by) continue;
                sum += waysOn(after(at, by), k + 1, n, memo);
            }
            memo[k][state] = sum;
            return sum;
        }

        BigInteger all(int n) {
            return ways(n, -1, 0, -1, 0);
        }

        int histories(int n) {
            if (!in(n, 0, 9)) return BAD;
            BigInteger ways = all(n);
            if (ways.signum() == 0) return find(NOUGHT);
            fraction(ways, BigInteger.ONE);
            return 1;
        }

        int when(int n, int l) {
            if (!in(n, 0, 9) || !in(l, 0, 3)) return BAD;
            if (laws[l] == null) return find(NOTHING);
            BigInteger ways = all(n);
            if (ways.signum() == 0) return find(NOUGHT);
            int inAll = 0;
            asked = 0;
            for (int k = 0; k <= n; k++) {
                BigInteger by = ways(n, k, l, -1, 0);
                if (by.equals(ways)) inAll |= 1 << k;
                if (by.signum() > 0) asked |= 1 << k;
            }
            return inAll;
        }

        int turned(int n, int k) {
            if (!in(n, 0, 9) || !in(k, 1, n)) return BAD;
            if (all(n).signum() == 0) return find(NOUGHT);
            int set = 0;
            for (int s = 0; s < stones.size(); s++) if (ways(n, -1, 0, k, s).signum() > 0) set |= 1 << s;
            asked = ways(n, -1, 0, k, NONE).signum();
            return set;
        }

        int odds(int n, int k, int l) {
            if (!in(n, 0, 9) || !in(k, 0, n) || !in(l, 0, 3)) return BAD;
            if (laws[l] == null) return find(NOTHING);
            if (all(n).signum() == 0) return find(NOUGHT);
            fraction(ways(n, k, l, -1, 0), all(n));
            return 1;
        }

        int lives(int set, int p) {
            if (!in(set, 0, 15) || !in(p, 1, 12)) return BAD;
            int[] best = nearest(set);
            if (best == null) return NONE;
            if (best[1] > 17) return SPENT;
            fraction(BigInteger.valueOf(p).pow(best[1]), BigInteger.valueOf(12).pow(best[1]));
            return best[1];
        }

        int count(int what) {
            int n = 0;
            switch (what) {
                case 0: return stones.size();
                case 1: return streets().size();
                case 2: for (int[] l : laws) if (l != null) n++;
                    return n;
                case 3: for (Stone s : stones) if (s.is(1)) n++;
                    return n;
                case 4: for (Stone s : stones) if (s.is(2)) n++;
                    return n;
                case 5: return engravings.size();
                case 6: for (int[] r : rows) if (r != null) n++;
                    return n;
                case 7: for (byte[] t : texts) if (t != null) n++;
                    return n;
                default: return BAD;
            }
        }

        int findingsOf(int f) {
            return in(f, 1, 5) ? findings[f] : BAD;
        }

        long digest() {
            List<Long> v = new ArrayList<>();
            for (int what = 0; what < 8; what++) v.add((long) count(what));
            v.add((long) year);
            for (int k = 0; k < stones.size(); k++) for (int w = 0; w < 6; w++) v.add((long) stoneWhat(k, w));
            for (int[] l : laws) addRow(v, l);
            for (Engraving e : engravings) {
                v.add((long) e.year);
                v.add((long) e.street);
                v.add((long) e.end);
                for (int w : e.words) v.add((long) w);
            }
            for (int k = 0; k < 3; k++) {
                if (keptQ[k] != null) v.add((long) number(keptQ[k]));
                v.add(keptQ[k] == null ? -1L : keptYear[k]);
            }
            for (int[] r : rows) addRow(v, r);
            for (byte[] t : texts) {
                int[] bytes = t == null ? null : new int[t.length];
                for (int i = 0; t != null && i < t.length; i++) bytes[i] = t[i];
                addRow(v, bytes);
            }
            long h = 17;
            for (long one : v) h = 31 * h + one;
            return h;
        }

        static void addRow(List<Long> v, int[] row) {
            v.add(row == null ? -1L : row.length);
            if (row != null) for (int one : row) v.add((long) one);
        }
    }

    private final Random random;
    private final int run;
    private final TurnedStones x = new TurnedStones();
    private final Model m = new Model();
    private final int alphabet;
    private int calls = 0;
    private final List<String> done = new ArrayList<>();

    private ModelTests(int run) {
        this.run = run;
        random = new Random(1000003L * run + 17);
        alphabet = 1 + random.nextInt(run % 3 == 0 ? 8 : 3);
    }

    private void same(String call, long got, long want) {
        done.add(call + " -> " + got);
        calls++;
        compare(call, got, want);
        compare("asked() behind " + call, x.asked(), m.asked);
        compare("upper() behind " + call, x.upper(), m.upper.longValueExact());
        compare("lower() behind " + call, x.lower(), m.lower.longValueExact());
        compare("finding() behind " + call, x.finding(), m.finding);
        compare("digest() behind " + call, x.digest(), m.digest());
        if (calls % 16 == 0) for (int f = 0; f <= 6; f++) compare("findings(" + f + ")", x.findings(f), m.findingsOf(f));
    }

    private void compare(String call, long got, long want) {
        if (got == want) return;
        for (String line : done) System.out.println(line);
        System.out.println("run " + run + ": " + call + " answered " + got + ", due is " + want);
        System.exit(1);
    }

    /** Mostly from 0 to the last number that is one, sometimes beside. */
    private int some(int last) {
        int odd = random.nextInt(24);
        if (odd == 0) return last + 1;
        if (odd == 1) return -1;
        return random.nextInt(last + 1);
    }

    private String word() {
        return String.valueOf((char) ('a' + random.nextInt(alphabet)));
    }

    private String blanks() {
        return " ".repeat(random.nextInt(3) == 0 ? random.nextInt(3) : 0);
    }

    private String townText() {
        int wide = 1 + random.nextInt(3);
        int high = 1 + random.nextInt(2);
        boolean plain = random.nextInt(3) == 0;
        StringBuilder s = new StringBuilder(blanks() + "g" + wide + high);
        for (int k = 0; k < wide * high; k++) {
            char kind = plain ? 's' : KINDS.charAt(random.nextInt(6));
            s.append(blanks()).append(kind).append(word()).append(word()).append(word()).append(word());
            if (kind == 'x' || kind == 'c') s.append(random.nextInt(4));
            if (kind == 'x') s.append(word());
        }
        s.append(blanks());
        if (random.nextInt(8) == 0) s.setCharAt(random.nextInt(s.length()), "g12sxfhcua i3\u00ff".charAt(random.nextInt(14)));
        if (random.nextInt(16) == 0) s.setLength(random.nextInt(s.length()));
        return s.toString();
    }

    private void makeTown() {
        int t = random.nextInt(4);
        String text = townText();
        same("text(" + t + ", " + text.length() + ")", x.text(t, text.length()), m.text(t, text.length()));
        for (int i = 0; i < text.length(); i++) {
            if (text.charAt(i) == ' ') continue;
            int v = text.charAt(i);
            same("put(" + t + ", " + i + ", " + v + ")", x.put(t, i, v), m.put(t, i, v));
        }
        same("fault(" + t + ")", x.fault(t), m.fault(t));
        same("town(" + t + ")", x.town(t), m.town(t));
    }

    private void makeLaw() {
        int r = random.nextInt(6);
        int n = 1 + random.nextInt(random.nextInt(8) == 0 ? 4 : 3);
        fillRow(r, n, random.nextInt(8) == 0 ? -1 : 0, alphabet);
        int l = some(3);
        same("law(" + l + ", " + r + ")", x.law(l, r), m.law(l, r));
    }

    private void fillRow(int r, int n, int from, int to) {
        same("row(" + r + ", " + n + ")", x.row(r, n), m.row(r, n));
        for (int i = 0; i < n; i++) {
            int v = from + random.nextInt(to - from);
            same("lay(" + r + ", " + i + ", " + v + ")", x.lay(r, i, v), m.lay(r, i, v));
        }
    }

    private void makeEngraving() {
        int streets = m.count(1);
        int street = some(Math.max(streets - 1, 0));
        int end = some(1);
        int year = random.nextInt(3) == 0 ? Math.min(m.year, 9) : some(9);
        int r = random.nextInt(6);
        if (random.nextInt(4) == 0) fillRow(r, 1 + random.nextInt(3), -1, alphabet);
        else same("reads(" + street + ", " + end + ", " + r + ")", x.reads(street, end, r), m.reads(street, end, r));
        same("engrave(" + year + ", " + street + ", " + end + ", " + r + ")",
            x.engrave(year, street, end, r), m.engrave(year, street, end, r));
    }

    private void makeYears() {
        int r = random.nextInt(6);
        int n = random.nextInt(random.nextInt(4) == 0 ? 61 : 6);
        same("row(" + r + ", " + n + ")", x.row(r, n), m.row(r, n));
        for (int i = 0; i < n && i < 6; i++) {
            int v = random.nextInt(3) == 0 ? NONE : some(Math.max(m.stones.size() - 1, 0));
            same("lay(" + r + ", " + i + ", " + v + ")", x.lay(r, i, v), m.lay(r, i, v));
        }
        int l = some(3);
        same("till(" + r + ", " + l + ")", x.till(r, l), m.till(r, l));
    }

    private void anyCall() {
        int set = some(15);
        int l = some(3);
        int r = some(5);
        int n = some(9);
        int k = some(Math.max(m.stones.size() - 1, 0));
        switch (random.nextInt(40)) {
            case 0: same("stone", x.stone(k, r), m.stone(k, r)); break;
            case 1: same("mark", x.mark(k, n), m.mark(k, n)); break;
            case 2: case 3: makeLaw(); break;
            case 4: {
                int end = some(1);
                same("reads", x.reads(k, end, r), m.reads(k, end, r));
                break;
            }
            case 5: case 6: same("stands(" + l + ")", x.stands(l), m.stands(l)); break;
            case 7: same("laws()", x.laws(), m.laws()); break;
            case 8: case 9: case 10: same("turn(" + k + ")", x.turn(k), m.turn(k)); break;
            case 11: same("turn(NONE)", x.turn(NONE), m.turn(NONE)); break;
            case 12: case 13: makeYears(); break;
            case 14: same("keep", x.keep(some2(k)), m.keep(kept)); break;
            case 15: same("on", x.on(some2(k)), m.on(kept)); break;
            case 16: same("state()", x.state(), m.state()); break;
            case 17: case 18: same("years(" + set + ")", x.years(set), m.years(set)); break;
            case 19: same("way(" + set + ", " + r + ")", x.way(set, r), m.way(set, r)); break;
            case 20: same("lost(" + set + ")", x.lost(set), m.lost(set)); break;
            case 21: same("share(" + set + ")", x.share(set), m.share(set)); break;
            case 22: same("together()", x.together(), m.together()); break;
            case 23: case 24: if (m.stones.size() < 6 || run % 8 == 0) same("mend(" + l + ")", x.mend(l), m.mend(l)); break;
            case 25: case 26: {
                int years = some(12);
                same("contest(" + l + ", " + years + ")", x.contest(l, years), m.contest(l, years));
                break;
            }
            case 27: case 28: case 29: makeEngraving(); break;
            case 30: {
                int from = some(m.engravings.size());
                same("lose(" + from + ")", x.lose(from), m.lose(from));
                break;
            }
            case 31: same("histories(" + n + ")", x.histories(n), m.histories(n)); break;
            case 32: case 33: same("when(" + n + ", " + l + ")", x.when(n, l), m.when(n, l)); break;
            case 34: {
                int year = some(Math.max(n, 0));
                same("turned(" + n + ", " + year + ")", x.turned(n, year), m.turned(n, year));
                break;
            }
            case 35: {
                int year = some(Math.max(n, 0));
                same("odds(" + n + ", " + year + ", " + l + ")", x.odds(n, year, l), m.odds(n, year, l));
                break;
            }
            case 36: {
                int p = some(12);
                same("lives(" + set + ", " + p + ")", x.lives(set, p), m.lives(set, p));
                break;
            }
            case 37: rowCalls(r, n, k); break;
            case 38: same("count(" + n + ")", x.count(n), m.count(n)); break;
            default: if (random.nextInt(3) == 0) makeTown(); break;
        }
    }

    private int kept;

    private int some2(int ignored) {
        kept = some(2);
        return kept;
    }

    private void rowCalls(int r, int n, int i) {
        int to = some(5);
        int j = some(3);
        switch (random.nextInt(8)) {
            case 0: same("at", x.at(r, i), m.at(r, i)); break;
            case 1: same("tear", x.tear(r), m.tear(r)); break;
            case 2: case 3: same("copy", x.copy(r, i, to, j, n), m.copy(r, i, to, j, n)); break;
            case 4: same("mean", x.mean(r), m.mean(r)); break;
            case 5: same("put", x.put(to, i, n * 77), m.put(to, i, n * 77)); break;
            case 6: {
                int v = random.nextInt();
                same("lay", x.lay(r, i, v), m.lay(r, i, v));
                break;
            }
            default: {
                int size = some(80);
                same("row", x.row(r, size), m.row(r, size));
                same("text", x.text(to, size), m.text(to, size));
            }
        }
    }

    private void go() {
        if (run % 10 != 9) makeTown();
        for (int i = 0; i < 3; i++) makeLaw();
        while (calls < 480) anyCall();
    }

    public static void main(String[] args) {
        int first = args.length > 0 ? Integer.parseInt(args[0]) : 0;
        int runs = args.length > 1 ? Integer.parseInt(args[1]) : 60;
        for (int run = first; run < first + runs; run++) new ModelTests(run).go();
        System.out.println(runs + " runs, all answers are as due");
    }
}
