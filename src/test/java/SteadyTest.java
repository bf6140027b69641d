import java.util.Random;

/** Calls with any arguments in any state: none throws, and the same calls always answer the same. */
public final class SteadyTest {
    static final int[] EDGES = {Integer.MIN_VALUE, Integer.MIN_VALUE + 1, -100000, -65, -20, -5, -2, -1, 0, 1, 2, 3, 4, 5, 9, 10, 11, 12, 13, 14,
        15, 16, 17, 19, 20, 21, 26, 27, 33, 34, 60, 61, 63, 64, 65, 99, 100, 127, 383, 384, 447, 448, 999, 1000, 1222, 9999, 65535, 65536,
        10123456, 16543210, 19999999, 20000000, Integer.MAX_VALUE - 1, Integer.MAX_VALUE};
    static final String[] WORDS = {"ties", "slips", "tells", "when", "or", "and", "not", "mind", "tight", "worn", "knots", "knows", "kept", "forgot",
        "open", "day", "on", "tie", "lend", "wash", "pull", "person", ";", "+", "-", "*", "/", "(", ")", "<", "=", ">", "0", "1", "2", "9", "1000", "9999"};
    static int answers = 0;

    static int any(Random r) {
        switch (r.nextInt(4)) {
            case 0: return EDGES[r.nextInt(EDGES.length)];
            case 1: return r.nextInt();
            default: return r.nextInt(20) - 2;
        }
    }

    static int bit(boolean b) { return b ? 1 : 0; }

    static int call(KnotLaundry x, Random r) {
        int a = any(r), b = any(r), c = any(r);
        switch (r.nextInt(42)) {
            case 0: return x.state(a);
            case 1: return x.person(a);
            case 2: return x.cloth(a);
            case 3: return x.thing(a, b);
            case 4: return bit(x.set(a, b, c));
            case 5: return bit(x.act(a, b, c));
            case 6: return x.days(a);
            case 7: return x.feed(a, b, c, a ^ b, b ^ c);
            case 8: return bit(x.end(a));
            case 9: return x.text(a);
            case 10: return x.fault(a);
            case 11: return x.of(a, b);
            case 12: return x.clothOf(a, b);
            case 13: return x.thingOf(a, b);
            case 14: return x.book(a, b);
            case 15: return x.goes(a, b);
            case 16: return x.fate(a);
            case 17: return x.crossing(a);
            case 18: return x.braid(a);
            case 19: return x.turnings(a, b);
            case 20: return x.strip(a, b, c);
            case 21: return x.answer(a);
            case 22: return x.boxes(a);
            case 23: return x.piles(a, b);
            case 24: return x.dealt(a);
            case 25: return x.key(a);
            case 26: return x.table(a, b, c);
            case 27: return x.ask(a);
            case 28: return x.pages(a, b);
            case 29: return x.truth(a, b);
            case 30: return x.rounds(a, b, c);
            case 31: return x.meets(a, b, c);
            case 32: return x.rows(a, b);
            case 33: return x.digit(a);
            case 34: return x.spelt(a, b);
            case 35: return x.game(a, b);
            case 36: return bit(x.undo());
            case 37: return bit(x.image(r.nextBoolean()));
            case 38: return x.look(a);
            default: return babble(x, r);
        }
    }

    /** Words without sense, as a text. */
    static int babble(KnotLaundry x, Random r) {
        StringBuilder s = new StringBuilder();
        int n = r.nextInt(90);
        for (int i = 0; i < n && s.length() < 390; i++) {
            s.append(WORDS[r.nextInt(WORDS.length)]);
            if (r.nextBoolean()) s.append(' ');
        }
        x.end(0);
        for (int from = 0; from < s.length(); from += 20) {
            int[] v = new int[5];
            for (int i = 0; i < 20; i++) v[i / 4] = v[i / 4] << 8 | (from + i < s.length() ? s.charAt(from + i) : ' ');
            x.feed(v[0], v[1], v[2], v[3], v[4]);
        }
        return x.text(r.nextInt(4)) * 1000 + x.fault(1);
    }

    static long run(long seed) {
        Random r = new Random(seed);
        KnotLaundry x = new KnotLaundry();
        if (r.nextBoolean()) {
            for (int i = 0; i < 20; i++) { x.person(i % 10); x.cloth(i % 12); x.thing(i % 12, i); }
        }
        long all = seed;
        for (int i = 0; i < 450; i++) {
            all = 31 * all + call(x, r);
            answers++;
        }
        return all;
    }

    public static void main(String[] args) {
        int runs = args.length > 0 ? Integer.parseInt(args[0]) : 2000;
        boolean isSteady = true;
        for (int seed = 0; seed < runs; seed++) {
            try {
                isSteady &= run(seed) == run(seed);
            } catch (RuntimeException | Error thrown) {
                System.out.println("seed " + seed + " threw");
                thrown.printStackTrace(System.out);
                isSteady = false;
                break;
            }
        }
        System.out.println("SteadyTest: " + answers + " answers" + (isSteady ? ": all steady" : ": not steady"));
        if (!isSteady) System.exit(1);
    }
}
