import java.util.ArrayDeque;
import java.util.ArrayList;
import java.util.Arrays;
import java.util.Collections;
import java.util.Deque;
import java.util.HashMap;
import java.util.HashSet;
import java.util.List;
import java.util.Map;
import java.util.Random;
import java.util.Set;
import java.util.TreeSet;

/** Promises 19 to 37, beside answers that are counted out by going through all that there is. */
public final class ThoughtTest {
    static final int NONE = KnotLaundry.NONE;
    static final int[] WILD = {Integer.MIN_VALUE, -100000, -65, -64, -3, -2, 100000, 1 << 20, Integer.MAX_VALUE - 1, Integer.MAX_VALUE};
    static int wrong = 0;
    static long asked = 0;

    static void due(String call, long got, long want) {
        asked++;
        if (got != want) {
            wrong++;
            if (wrong < 30) System.out.println(call + " answered " + got + ", due is " + want);
        }
    }

    static void braid() {
        Random r = new Random(19);
        KnotLaundry x = new KnotLaundry();
        for (int run = 0; run < 3000; run++) {
            due("crossing(0)", x.crossing(0), 0);
            List<Integer> word = new ArrayList<>();
            int[] strands = {0, 1, 2, 3, 4};
            int n = r.nextInt(14);
            for (int i = 0; i < n; i++) {
                int k = (1 + r.nextInt(r.nextBoolean() ? 4 : 2)) * (r.nextBoolean() ? 1 : -1);
                boolean isRoom = word.size() < 12;
                due("crossing " + i, x.crossing(k), isRoom ? i + 1 : NONE);
                if (!isRoom) continue;
                word.add(k);
                int a = Math.abs(k);
                int t = strands[a]; strands[a] = strands[a - 1]; strands[a - 1] = t;
            }
            due("crossing(5)", x.crossing(5), NONE);
            due("crossing(-5)", x.crossing(-5), NONE);
            for (int place = 0; place < 5; place++) due("braid of " + word, x.braid(strands[place]), place);
            List<Integer> left = new ArrayList<>(word);
            boolean isChanged = true;
            while (isChanged) {
                isChanged = false;
                for (int i = 0; i + 1 < left.size() && !isChanged; i++) {
                    if (left.get(i) + left.get(i + 1) == 0) { left.remove(i); left.remove(i); isChanged = true; }
                }
            }
            due("braid(NONE) of " + word, x.braid(NONE), left.size());
            due("braid(5)", x.braid(5), NONE);
            due("braid(-2)", x.braid(-2), NONE);
        }
        for (int v : WILD) { due("crossing", x.crossing(v == -3 || v == -2 ? 5 : v), NONE); due("braid", x.braid(v), NONE); }
    }

    static void turnings() {
        KnotLaundry x = new KnotLaundry();
        Map<String, Integer> fewest = new HashMap<>();
        for (int n = 1; n <= 7; n++) {
            String start = "0123456".substring(0, n);
            Deque<String> todo = new ArrayDeque<>(List.of(start));
            fewest.put(start, 0);
            while (!todo.isEmpty()) {
                String s = todo.removeFirst();
                for (int k = 2; k <= n; k++) {
                    String t = new StringBuilder(s.substring(0, k)).reverse() + s.substring(k);
                    if (fewest.putIfAbsent(t, fewest.get(s) + 1) == null) todo.addLast(t);
                }
            }
        }
        fewest.forEach((s, n) -> {
            int row = Integer.parseInt("1" + s);
            int couples = 0;
            for (int i = 1; i < s.length(); i++) couples += Math.abs(s.charAt(i) - s.charAt(i - 1)) == 1 ? 0 : 1;
            due("turnings(" + row + ", 0)", x.turnings(row, 0), n);
            due("turnings(" + row + ", 1)", x.turnings(row, 1), couples);
        });
        for (int row = -20; row < 200000; row++) {
            String s = row > 0 ? "" + row : "9";
            boolean isRow = s.charAt(0) == '1' && fewest.containsKey(s.substring(1));
            if (!isRow) { due("turnings(" + row + ", 0)", x.turnings(row, 0), NONE); due("turnings(" + row + ", 1)", x.turnings(row, 1), NONE); }
        }
        for (int row : new int[] {101234567, 1012345678, 20123456, 11111111, 10123457, 1999999999}) due("turnings(" + row + ", 0)", x.turnings(row, 0), NONE);
        for (int what : WILD) due("turnings(10, " + what + ")", x.turnings(10, what), NONE);
        for (int row : WILD) due("turnings(" + row + ", 0)", x.turnings(row, 0), NONE);
        due("turnings(10, -1)", x.turnings(10, -1), NONE);
        due("turnings(10, 2)", x.turnings(10, 2), NONE);
    }

    /** Cells as c + 1, face down as less that. */
    static List<Integer> folded(int k, int f) {
        List<List<Integer>> piles = new ArrayList<>();
        for (int c = 0; c < 1 << k; c++) piles.add(new ArrayList<>(List.of(c + 1)));
        for (int fold = 0; fold < k; fold++) {
            int half = piles.size() / 2;
            List<List<Integer>> left = piles.subList(0, half);
            List<List<Integer>> right = piles.subList(half, 2 * half);
            boolean isLeftTurned = (f >> fold & 1) == 1;
            List<List<Integer>> turned = new ArrayList<>(isLeftTurned ? left : right);
            List<List<Integer>> lying = new ArrayList<>(isLeftTurned ? right : left);
            Collections.reverse(turned);
            List<List<Integer>> next = new ArrayList<>();
            for (int i = 0; i < half; i++) {
                List<Integer> pile = new ArrayList<>();
                List<Integer> top = new ArrayList<>(turned.get(i));
                Collections.reverse(top);
                for (int c : top) pile.add(-c);
                pile.addAll(lying.get(i));
                next.add(pile);
            }
            piles = next;
        }
        return piles.get(0);
    }

    static void strip() {
        KnotLaundry x = new KnotLaundry();
        for (int kf = 0; kf < 448; kf++) {
            List<Integer> pile = folded(kf / 64, kf % 64);
            for (int i = 0; i < pile.size(); i++) {
                int cell = Math.abs(pile.get(i)) - 1;
                due("strip(" + kf + ", " + i + ", 0)", x.strip(kf, i, 0), cell);
                due("strip(" + kf + ", " + cell + ", 1)", x.strip(kf, cell, 1), i);
                due("strip(" + kf + ", " + cell + ", 2)", x.strip(kf, cell, 2), pile.get(i) > 0 ? 1 : 0);
            }
            for (int what = 0; what < 3; what++) {
                due("strip(" + kf + ", -1, " + what + ")", x.strip(kf, -1, what), NONE);
                due("strip(" + kf + ", n, " + what + ")", x.strip(kf, pile.size(), what), NONE);
            }
            due("strip(" + kf + ", 0, 3)", x.strip(kf, 0, 3), NONE);
            due("strip(" + kf + ", 0, -1)", x.strip(kf, 0, -1), NONE);
        }
        for (int v : WILD) {
            due("strip(" + v + ", 0, 0)", x.strip(v, 0, 0), NONE);
            due("strip(64, " + v + ", 0)", x.strip(64, v, 0), NONE);
            due("strip(64, 0, " + v + ")", x.strip(64, 0, v), NONE);
        }
        due("strip(-1, 0, 0)", x.strip(-1, 0, 0), NONE);
        due("strip(448, 0, 0)", x.strip(448, 0, 0), NONE);
    }

    static void boxes() {
        KnotLaundry x = new KnotLaundry();
        int[] on = {0, 1, 2, 4, 8, 16};
        Random r = new Random(24);
        for (int run = 0; run < 2000; run++) {
            due("answer(NONE)", x.answer(NONE), 0);
            due("boxes(0)", x.boxes(0), 1);
            due("boxes(1)", x.boxes(1), 0);
            int box = 1, day = 0, n = r.nextInt(19), mostlyRight = r.nextInt(6);
            for (int i = 0; i < n; i++) {
                int v = r.nextInt(1 + mostlyRight) == 0 ? 0 : 1;
                due("answer", x.answer(v), i < 16 ? i + 1 : NONE);
                if (i >= 16) continue;
                box = v == 0 ? 1 : box == 5 ? 5 : box + 1;
                day += on[box];
                due("boxes(0)", x.boxes(0), box);
                due("boxes(1)", x.boxes(1), day);
            }
        }
        for (int v : WILD) { due("answer", x.answer(v), NONE); due("boxes", x.boxes(v), NONE); }
        due("answer(2)", x.answer(2), NONE);
        due("boxes(2)", x.boxes(2), NONE);
        due("boxes(-1)", x.boxes(-1), NONE);
    }

    /** The cards are dealt and the piles laid on one another with the card's own one a-th. */
    static int dealtBy(int c, int p) {
        List<Integer> pack = new ArrayList<>();
        for (int i = 0; i < 27; i++) pack.add(i);
        for (int a : new int[] {p / 100 % 10, p / 10 % 10, p % 10}) {
            List<List<Integer>> piles = List.of(new ArrayList<>(), new ArrayList<>(), new ArrayList<>());
            for (int i = 0; i < 27; i++) piles.get(i % 3).add(pack.get(i));
            List<List<Integer>> order = new ArrayList<>();
            for (List<Integer> pile : piles) if (!pile.contains(c)) order.add(pile);
            for (List<Integer> pile : piles) if (pile.contains(c)) { order.add(a, pile); break; }
            pack.clear();
            for (List<Integer> pile : order) pack.addAll(pile);
        }
        return pack.indexOf(c);
    }

    static void piles() {
        KnotLaundry x = new KnotLaundry();
        for (int p = -5; p < 3000; p++) {
            boolean isRight = ("" + p).matches("1[012][012][012]");
            for (int c = -1; c <= 27; c++) {
                boolean isCard = c >= 0 && c < 27;
                due("piles(" + c + ", " + p + ")", x.piles(c, p), isRight && isCard ? dealtBy(c, p) : NONE);
                if (isRight && isCard) due("dealt", x.dealt(dealtBy(c, p)), p);
            }
        }
        for (int v : WILD) { due("piles", x.piles(v, 1000), NONE); due("piles", x.piles(0, v), NONE); due("dealt", x.dealt(v), NONE); }
        due("piles(0, 11000)", x.piles(0, 11000), NONE);
        due("dealt(-1)", x.dealt(-1), NONE);
        due("dealt(27)", x.dealt(27), NONE);
    }

    static void table() {
        KnotLaundry x = new KnotLaundry();
        Random r = new Random(28);
        for (int run = 0; run < 800; run++) {
            due("key(NONE)", x.key(NONE), 0);
            List<Integer> keys = new ArrayList<>();
            int n = r.nextInt(15), bound = r.nextBoolean() ? 100 : 20;
            for (int i = 0; i < n; i++) {
                int v = r.nextInt(bound);
                due("key", x.key(v), i < 12 ? i + 1 : NONE);
                if (i < 12) keys.add(v);
            }
            int m = 2 + r.nextInt(15);
            Integer[] places = new Integer[m];
            for (int key : keys) {
                if (Arrays.asList(places).contains(key)) continue;
                for (int i = 0; i < m; i++) if (places[(key + i) % m] == null) { places[(key + i) % m] = key; break; }
            }
            for (int v = 0; v < 100; v++) {
                int at = Arrays.asList(places).indexOf(v);
                int looks = 0;
                for (int i = 0; i < m; i++) {
                    looks++;
                    Integer there = places[(v + i) % m];
                    if (there == null || there == v) break;
                }
                due("table(" + m + ", " + v + ", 0) of " + keys, x.table(m, v, 0), at);
                due("table(" + m + ", " + v + ", 1) of " + keys, x.table(m, v, 1), looks);
            }
        }
        for (int v : WILD) {
            due("key", x.key(v), NONE);
            due("table(" + v + ", 5, 0)", x.table(v, 5, 0), NONE);
            due("table(5, " + v + ", 1)", x.table(5, v, 1), NONE);
            due("table(5, 5, " + v + ")", x.table(5, 5, v), NONE);
        }
        due("key(100)", x.key(100), NONE);
        for (int what = 0; what < 2; what++) {
            for (int m : new int[] {-1, 0, 1, 17}) due("table(" + m + ")", x.table(m, 5, what), NONE);
            due("table(5, 100)", x.table(5, 100, what), NONE);
            due("table(5, -1)", x.table(5, -1, what), NONE);
        }
        due("table(5, 5, 2)", x.table(5, 5, 2), NONE);
        due("table(5, 5, -1)", x.table(5, 5, -1), NONE);
    }

    /** All ways of letting one go are gone through. */
    static int fewestMisses(List<Integer> asks, int k) {
        Map<Set<Integer>, Integer> states = new HashMap<>();
        states.put(new TreeSet<>(), 0);
        for (int page : asks) {
            Map<Set<Integer>, Integer> next = new HashMap<>();
            states.forEach((kept, misses) -> {
                if (kept.contains(page)) { next.merge(kept, misses, Math::min); return; }
                if (kept.size() < k) {
                    Set<Integer> more = new TreeSet<>(kept);
                    more.add(page);
                    next.merge(more, misses + 1, Math::min);
                    return;
                }
                for (int goer : kept) {
                    Set<Integer> other = new TreeSet<>(kept);
                    other.remove(goer);
                    other.add(page);
                    next.merge(other, misses + 1, Math::min);
                }
            });
            states = next;
        }
        return Collections.min(states.values());
    }

    static int missesByAge(List<Integer> asks, int k) {
        List<Integer> kept = new ArrayList<>();
        int misses = 0;
        for (Integer page : asks) {
            if (!kept.remove(page)) {
                misses++;
                if (kept.size() == k) kept.remove(0);
            }
            kept.add(page);
        }
        return misses;
    }

    static void pages() {
        KnotLaundry x = new KnotLaundry();
        Random r = new Random(30);
        for (int run = 0; run < 1500; run++) {
            due("ask(NONE)", x.ask(NONE), 0);
            List<Integer> asks = new ArrayList<>();
            int n = r.nextInt(19), bound = 1 + r.nextInt(10);
            for (int i = 0; i < n; i++) {
                int v = r.nextInt(bound);
                due("ask", x.ask(v), i < 16 ? i + 1 : NONE);
                if (i < 16) asks.add(v);
            }
            for (int k = 1; k <= 5; k++) {
                due("pages(" + k + ", 0) of " + asks, x.pages(k, 0), missesByAge(asks, k));
                due("pages(" + k + ", 1) of " + asks, x.pages(k, 1), fewestMisses(asks, k));
            }
        }
        for (int v : WILD) { due("ask", x.ask(v), NONE); due("pages", x.pages(v, 0), NONE); due("pages", x.pages(1, v), NONE); }
        due("ask(10)", x.ask(10), NONE);
        for (int k : new int[] {-1, 0, 6}) { due("pages", x.pages(k, 0), NONE); due("pages", x.pages(k, 1), NONE); }
        due("pages(1, 2)", x.pages(1, 2), NONE);
        due("pages(1, -1)", x.pages(1, -1), NONE);
    }

    static void truth() {
        KnotLaundry x = new KnotLaundry();
        List<Integer> cubes = new ArrayList<>();
        for (int code = 0; code < 81; code++) {
            int cases = 0;
            for (int v = 0; v < 16; v++) {
                boolean isIn = true;
                for (int thing = 0, c = code; thing < 4; thing++, c /= 3) isIn &= c % 3 == 2 || c % 3 == (v >> thing & 1);
                if (isIn) cases |= 1 << v;
            }
            cubes.add(cases);
        }
        for (int set = 0; set < 65536; set += set < 2000 ? 1 : 7) {
            List<Integer> inside = new ArrayList<>();
            for (int c : cubes) if ((c & set) == c) inside.add(c);
            List<Integer> sides = new ArrayList<>();
            for (int c : inside) if (inside.stream().noneMatch(d -> d != c && (d & c) == c)) sides.add(c);
            int own = 0;
            for (int c : sides) {
                int others = 0;
                for (int d : sides) if (d != c) others |= d;
                own += (c & ~others) != 0 ? 1 : 0;
            }
            due("truth(" + set + ", 0)", x.truth(set, 0), sides.size());
            due("truth(" + set + ", 1)", x.truth(set, 1), own);
        }
        due("truth(65535, 0)", x.truth(65535, 0), 1);
        due("truth(65535, 1)", x.truth(65535, 1), 1);
        for (int v : WILD) { due("truth(" + v + ")", x.truth(v, 0), NONE); due("truth what", x.truth(3, v), NONE); }
        for (int v : new int[] {-1, 65536}) { due("truth(" + v + ")", x.truth(v, 0), NONE); due("truth(" + v + ")", x.truth(v, 1), NONE); }
        due("truth(1, 2)", x.truth(1, 2), NONE);
        due("truth(1, -1)", x.truth(1, -1), NONE);
    }

    static void rounds() {
        KnotLaundry x = new KnotLaundry();
        for (int n = 2; n <= 13; n++) {
            int m = n % 2 == 0 ? n : n + 1;
            for (int i = 0; i < n; i++) {
                for (int r = 0; r <= m - 2; r++) {
                    int other = NONE;
                    if (i == m - 1) other = r;
                    else {
                        for (int j = 0; j < m - 1; j++) if (j != i && (i + j) % (m - 1) == 2 * r % (m - 1)) other = j;
                        if (i == r) other = m - 1;
                    }
                    due("rounds(" + n + ", " + r + ", " + i + ")", x.rounds(n, r, i), other == n ? NONE : other);
                    if (other >= 0 && other < n) due("meets(" + n + ", " + i + ", " + other + ")", x.meets(n, i, other), r);
                }
                due("rounds, r " + (m - 1), x.rounds(n, m - 1, i), NONE);
                due("rounds, r -1", x.rounds(n, -1, i), NONE);
                due("meets alike", x.meets(n, i, i), NONE);
                due("meets n", x.meets(n, i, n), NONE);
                due("meets n", x.meets(n, n, i), NONE);
                due("meets -1", x.meets(n, -1, i), NONE);
                due("meets -1", x.meets(n, i, -1), NONE);
                for (int j = 0; j < n; j++) if (j != i) due("all meet", x.rounds(n, x.meets(n, i, j), i), j);
            }
            due("rounds, i n", x.rounds(n, 0, n), NONE);
            due("rounds, i -1", x.rounds(n, 0, -1), NONE);
            for (int v : WILD) {
                due("rounds", x.rounds(n, v, 0), NONE);
                due("rounds", x.rounds(n, 0, v), NONE);
                due("meets", x.meets(n, 0, v), NONE);
                due("meets", x.meets(n, v, 0), NONE);
            }
        }
        for (int n : new int[] {-1, 0, 1, 14, Integer.MIN_VALUE, Integer.MAX_VALUE}) { due("rounds", x.rounds(n, 0, 0), NONE); due("meets", x.meets(n, 0, 1), NONE); }
    }

    /** Each thing comes alone into a row of its own, or ahead of one that is there, or at the end of a row. */
    static long waysInRows(int n, int k) {
        if (n == 0) return k == 0 ? 1 : 0;
        if (k == 0) return 0;
        return waysInRows(n - 1, k - 1) + (n - 1 + k) * waysInRows(n - 1, k);
    }

    static void rows() {
        KnotLaundry x = new KnotLaundry();
        for (int n = -2; n <= 12; n++) {
            for (int k = -2; k <= 12; k++) {
                boolean canBe = n >= 0 && n <= 10 && k >= 0 && k <= 10;
                due("rows(" + n + ", " + k + ")", x.rows(n, k), canBe ? waysInRows(n, k) : NONE);
            }
        }
        for (int v : WILD) { due("rows", x.rows(v, 1), NONE); due("rows", x.rows(1, v), NONE); }
    }

    static void spelt() {
        KnotLaundry x = new KnotLaundry();
        Random r = new Random(36);
        for (int run = 0; run < 400; run++) {
            due("digit(NONE)", x.digit(NONE), 0);
            due("spelt(NONE) of none", x.spelt(NONE, 77), 1);
            due("spelt(0, 0) of none", x.spelt(0, 0), NONE);
            int n = r.nextInt(run % 20 == 0 ? 13 : 6);
            List<Integer> digits = new ArrayList<>();
            for (int i = 0; i < n; i++) {
                int v = r.nextInt(10);
                due("digit", x.digit(v), i < 10 ? i + 1 : NONE);
                if (i < 10) digits.add(v);
            }
            int[] choice = new int[digits.size()];
            int way = 0;
            boolean isMore = true;
            while (isMore) {
                if (way < 300) for (int i = 0; i < choice.length; i++) due("spelt(" + i + ", " + way + ") of " + digits, x.spelt(i, way), digits.get(i) < 2 ? NONE : choice[i]);
                way++;
                isMore = false;
                for (int i = choice.length - 1; i >= 0 && !isMore; i--) {
                    int letters = digits.get(i) < 2 ? 1 : digits.get(i) == 7 || digits.get(i) == 9 ? 4 : 3;
                    choice[i]++;
                    isMore = choice[i] < letters;
                    if (!isMore) choice[i] = 0;
                }
            }
            due("spelt(NONE) of " + digits, x.spelt(NONE, -5), way);
            for (int i = -3; i < 12; i++) { due("spelt, v " + way, x.spelt(i, way), i == NONE ? way : NONE); due("spelt, v -1", x.spelt(i, -1), i == NONE ? way : NONE); }
            due("spelt, i n", x.spelt(digits.size(), 0), NONE);
            due("spelt, i -2", x.spelt(-2, 0), NONE);
        }
        for (int i = 0; i < 10; i++) { x.digit(9); }
        for (int v : WILD) { due("digit", x.digit(v), NONE); due("spelt", x.spelt(v, 0), NONE); due("spelt", x.spelt(0, v), v == 100000 ? x.spelt(0, 100000) : NONE); }
        due("digit(10)", x.digit(10), NONE);
        x.digit(NONE);
        for (int i = 0; i < 10; i++) due("digit", x.digit(9), i + 1);
        due("the eleventh digit", x.digit(2), NONE);
        due("4 to the 10th", x.spelt(NONE, 0), 1 << 20);
        due("the last way", x.spelt(0, (1 << 20) - 1), 3);
        due("no more ways", x.spelt(0, 1 << 20), NONE);
    }

    static final byte[][] WINS = new byte[17][];

    static boolean hasThree(int full) { return (full & full >> 1 & full >> 2) != 0; }

    static boolean wins(int n, int full) {
        if (WINS[n] == null) WINS[n] = new byte[1 << n];
        if (WINS[n][full] == 0) WINS[n][full] = (byte) (winner(n, full) == NONE ? 1 : 2);
        return WINS[n][full] == 2;
    }

    static int winner(int n, int full) {
        if (hasThree(full)) return NONE;
        for (int place = 0; place < n; place++) {
            int next = full | 1 << place;
            if (next != full && (hasThree(next) || !wins(n, next))) return place;
        }
        return NONE;
    }

    static void game() {
        KnotLaundry x = new KnotLaundry();
        for (int n = 3; n <= 16; n++) {
            for (int full = 0; full < 1 << n; full++) due("game(" + n + ", " + full + ")", x.game(n, full), winner(n, full));
            due("game(" + n + ", -1)", x.game(n, -1), NONE);
            due("game(" + n + ", 1 << n)", x.game(n, 1 << n), NONE);
            for (int v : WILD) due("game(" + n + ", " + v + ")", x.game(n, v), NONE);
        }
        for (int n : new int[] {-1, 0, 1, 2, 17, 31, 32, 35, Integer.MIN_VALUE, Integer.MAX_VALUE}) due("game(" + n + ", 0)", x.game(n, 0), NONE);
    }

    public static void main(String[] args) {
        braid();
        turnings();
        strip();
        boxes();
        piles();
        table();
        pages();
        truth();
        rounds();
        rows();
        spelt();
        game();
        System.out.println("ThoughtTest: " + asked + " answers" + (wrong == 0 ? ": all as due" : ": " + wrong + " wrong"));
        if (wrong != 0) System.exit(1);
    }
}
