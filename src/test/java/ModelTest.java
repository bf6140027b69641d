import java.util.ArrayDeque;
import java.util.ArrayList;
import java.util.Arrays;
import java.util.Deque;
import java.util.List;
import java.util.Random;
import java.util.function.IntPredicate;
import java.util.function.ToIntFunction;

/** Random runs of calls, each answer beside that of a second, plainer program of promises 1 to 18 and 38 to 40. */
public final class ModelTest {
    static final int NONE = KnotLaundry.NONE;
    static int wrong = 0;
    static final int[] faultsSeen = new int[4];
    static final int[] linesSeen = new int[5];
    static int textsTold = 0;
    static int undone = 0;
    static int refusedAtTheEnd = 0;

    static final class Fault extends RuntimeException {
        private static final long serialVersionUID = 1;
        final int code;
        final int place;

        Fault(int code, int place) {
            super(null, null, false, false);
            this.code = code;
            this.place = place;
        }
    }

    record Seen(int mind, int tight, int worn, int knots, int knows, int kept, int forgot, int open, int day) { }

    interface Value extends ToIntFunction<Seen> { }

    interface Claim {
        boolean isSo(Seen s);
    }

    record LawLine(String word, Value value, Claim when) { }

    record Line(int day, String deed, int a, int b) { }

    record Entry(int day, int what, int which, int much) { }

    record Token(String s, int place, boolean isNumber) { }

    static final class Person {
        int mind, kept, forgot;
        Person copy() { Person p = new Person(); p.mind = mind; p.kept = kept; p.forgot = forgot; return p; }
    }

    static final class Cloth {
        int with, worn;
        List<Integer> knots = new ArrayList<>();
        Cloth copy() { Cloth c = new Cloth(); c.with = with; c.worn = worn; c.knots = new ArrayList<>(knots); return c; }
    }

    static final class Thing {
        int of, due, in = NONE, tight, is;
        Thing copy() { Thing t = new Thing(); t.of = of; t.due = due; t.in = in; t.tight = tight; t.is = is; return t; }
    }

    static final class World {
        int state, day;
        boolean inThought;
        List<Person> persons = new ArrayList<>();
        List<Cloth> cloths = new ArrayList<>();
        List<Thing> things = new ArrayList<>();
        List<Entry> book = new ArrayList<>();

        World copy() {
            World w = new World();
            w.state = state; w.day = day; w.inThought = inThought;
            for (Person p : persons) w.persons.add(p.copy());
            for (Cloth c : cloths) w.cloths.add(c.copy());
            for (Thing t : things) w.things.add(t.copy());
            w.book.addAll(book);
            return w;
        }
    }

    static final class Model {
        World w = new World();
        List<LawLine> law = new ArrayList<>();
        List<Line> deeds = new ArrayList<>(), minds = new ArrayList<>(), friends = new ArrayList<>();
        Deque<World> undos = new ArrayDeque<>();
        World imageWorld;
        List<LawLine> imageLaw;
        List<Line> imageDeeds, imageMinds, imageFriends;
        StringBuilder tape = new StringBuilder();
        int fault = 0, place = NONE;

        int state(int v) { int was = w.state; w.state = v; undos.clear(); return was; }

        int person(int mind) {
            if (mind < 0 || mind > 9 || w.persons.size() == 12) return NONE;
            Person p = new Person();
            p.mind = mind;
            w.persons.add(p);
            undos.clear();
            return w.persons.size() - 1;
        }

        int cloth(int person) {
            if (!isIn(person, w.persons) || w.cloths.size() == 14) return NONE;
            Cloth c = new Cloth();
            c.with = person;
            w.cloths.add(c);
            undos.clear();
            return w.cloths.size() - 1;
        }

        int thing(int person, int due) {
            if (!isIn(person, w.persons) || due < 0 || due > 999 || w.things.size() == 20) return NONE;
            Thing t = new Thing();
            t.of = person;
            t.due = due;
            w.things.add(t);
            undos.clear();
            return w.things.size() - 1;
        }

        static boolean isIn(int i, List<?> list) { return i >= 0 && i < list.size(); }

        boolean set(int what, int who, int v) {
            switch (what) {
                case 0:
                    if (!isIn(who, w.persons) || v < 0 || v > 9) return false;
                    w.persons.get(who).mind = v;
                    break;
                case 1:
                    if (!isIn(who, w.cloths) || v < 0 || v > 99) return false;
                    w.cloths.get(who).worn = v;
                    break;
                case 2:
                    if (!isIn(who, w.things) || w.things.get(who).is != 0 || v < 0 || v > 999) return false;
                    w.things.get(who).due = v;
                    break;
                case 3:
                    if (!isIn(who, w.things) || w.things.get(who).in == NONE || v < 1 || v > 9) return false;
                    w.things.get(who).tight = v;
                    break;
                default:
                    return false;
            }
            undos.clear();
            return true;
        }

        void keep() { undos.addLast(w.copy()); if (undos.size() > 6) undos.removeFirst(); }

        boolean act(int what, int who, int v) {
            switch (what) {
                case 0:
                    if (!isIn(who, w.things) || !isIn(v, w.cloths)) return false;
                    if (w.things.get(who).is != 0 || w.things.get(who).in != NONE || w.cloths.get(v).knots.size() >= 4) return false;
                    keep();
                    tie(w, who, v);
                    return true;
                case 1:
                    if (!isIn(who, w.cloths) || !isIn(v, w.persons) || w.cloths.get(who).with == v) return false;
                    keep();
                    w.cloths.get(who).with = v;
                    return true;
                case 2:
                    if (!isIn(who, w.cloths)) return false;
                    keep();
                    wash(w, who);
                    return true;
                case 3:
                    if (!isIn(who, w.cloths) || w.cloths.get(who).knots.isEmpty()) return false;
                    keep();
                    pull(w, who);
                    return true;
                default:
                    return false;
            }
        }

        int days(int n) {
            if (n < 1 || n > 60 || w.day + n > 9999) return NONE;
            int kept = 0;
            while (n-- > 0) {
                keep();
                kept += day(w);
            }
            return kept;
        }

        void line(World w, int what, int which, int much) {
            if (!w.inThought && w.book.size() < 150) w.book.add(new Entry(w.day, what, which, much));
        }

        boolean knows(int p, int q) {
            return friends.stream().anyMatch(l -> l.a == p && l.b == q || l.a == q && l.b == p);
        }

        int ask(World w, String word, int thing, int cloth) {
            Thing t = w.things.get(thing);
            Cloth c = w.cloths.get(cloth);
            int open = (int) w.things.stream().filter(x -> x.is == 0).count();
            Person holder = w.persons.get(c.with);
            Person owner = w.persons.get(t.of);
            int knows = c.with == t.of ? 2 : knows(c.with, t.of) ? 1 : 0;
            Seen s = new Seen(holder.mind, t.tight, c.worn, c.knots.size(), knows, owner.kept, owner.forgot, open, w.day);
            int told = word.equals("ties") ? 1 + s.mind / 2 : word.equals("slips") ? 900 - 100 * s.tight : 300 * s.knows + 50 * s.mind;
            for (LawLine l : law) {
                if (l.word.equals(word) && (l.when == null || l.when.isSo(s))) {
                    told = l.value.applyAsInt(s);
                    break;
                }
            }
            int least = word.equals("ties") ? 1 : 0;
            int most = word.equals("ties") ? 9 : 1000;
            return told < least ? least : told > most ? most : told;
        }

        boolean chance(World w, int likely) {
            if (w.inThought) return likely >= 500;
            if (likely <= 0) return false;
            w.state = w.state * 1664525 + 1013904223;
            long top = (w.state & 0xFFFFFFFFL) / 256;
            return top % 1000 < likely;
        }

        void tie(World w, int thing, int cloth) {
            Thing t = w.things.get(thing);
            Cloth c = w.cloths.get(cloth);
            if (t.is != 0 || t.in != NONE || c.knots.size() > 3) return;
            int tight = ask(w, "ties", thing, cloth);
            c.knots.add(thing);
            t.in = cloth;
            t.tight = tight;
            line(w, 0, thing, tight);
        }

        void loosen(World w, int thing) {
            Thing t = w.things.get(thing);
            if (t.in != NONE) w.cloths.get(t.in).knots.remove(Integer.valueOf(thing));
            t.in = NONE;
            t.tight = 0;
        }

        void wash(World w, int cloth) {
            Cloth c = w.cloths.get(cloth);
            if (c.worn < 99) c.worn++;
            for (int thing : new ArrayList<>(c.knots)) {
                if (chance(w, ask(w, "slips", thing, cloth))) {
                    loosen(w, thing);
                    line(w, 1, thing, cloth);
                }
            }
        }

        void pull(World w, int cloth) {
            Cloth c = w.cloths.get(cloth);
            if (c.knots.isEmpty()) return;
            int thing = c.knots.get(c.knots.size() - 1);
            Thing t = w.things.get(thing);
            t.tight--;
            if (t.tight == 0) {
                loosen(w, thing);
                line(w, 4, thing, cloth);
            }
        }

        int day(World w) {
            int kept = 0;
            for (Line l : minds) if (l.day == w.day) w.persons.get(l.a).mind = l.b;
            for (Line l : deeds) {
                if (l.day != w.day) continue;
                if (l.deed.equals("tie")) tie(w, l.a, l.b);
                if (l.deed.equals("lend")) w.cloths.get(l.a).with = l.b;
                if (l.deed.equals("wash")) wash(w, l.a);
                if (l.deed.equals("pull")) pull(w, l.a);
            }
            for (int i = 0; i < w.things.size(); i++) {
                Thing t = w.things.get(i);
                if (t.is != 0 || t.due != w.day) continue;
                int holder = t.in == NONE ? NONE : w.cloths.get(t.in).with;
                boolean isKept = holder != NONE && (holder == t.of || chance(w, ask(w, "tells", i, t.in)));
                if (isKept) { t.is = 1; w.persons.get(t.of).kept++; kept++; }
                else { t.is = 2; w.persons.get(t.of).forgot++; }
                line(w, isKept ? 2 : 3, i, holder);
                loosen(w, i);
            }
            w.day++;
            return kept;
        }

        int feed(int... numbers) {
            if (tape.length() > 380) return NONE;
            for (int n : numbers) for (int s = 24; s >= 0; s -= 8) tape.append((char) (n >> s & 255));
            return tape.length();
        }

        boolean end(int n) {
            if (n < 0 || n > tape.length()) return false;
            tape.setLength(n);
            return true;
        }

        int text(int k) {
            String s = tape.toString();
            tape.setLength(0);
            fault = 0;
            place = NONE;
            if (k < 0 || k > 3) return NONE;
            try {
                Reader r = new Reader(s, w);
                if (k == 0) { law = r.law(); return law.size(); }
                List<Line> lines = r.lines(k);
                if (k == 1) deeds = lines;
                if (k == 2) minds = lines;
                if (k == 3) friends = lines;
                if (k != 3) undos.clear();
                return lines.size();
            } catch (Fault f) {
                fault = f.code;
                place = f.place;
                return NONE;
            }
        }

        int fault(int what) { return what == 0 ? fault : what == 1 ? place : NONE; }

        static int bits(int n, IntPredicate p) {
            int set = 0;
            for (int i = 0; i < n; i++) if (p.test(i)) set |= 1 << i;
            return set;
        }

        int of(int person, int what) {
            if (!isIn(person, w.persons)) return NONE;
            Person p = w.persons.get(person);
            switch (what) {
                case 0: return p.mind;
                case 1: return p.kept;
                case 2: return p.forgot;
                case 3: return (int) w.things.stream().filter(t -> t.of == person && t.is == 0).count();
                case 4: return w.things.stream().filter(t -> t.of == person && t.is == 0 && t.due >= w.day).mapToInt(t -> t.due).min().orElse(NONE);
                case 5: return bits(w.cloths.size(), i -> w.cloths.get(i).with == person);
                case 6: return bits(w.persons.size(), i -> knows(i, person));
                default: return NONE;
            }
        }

        int clothOf(int cloth, int what) {
            if (!isIn(cloth, w.cloths)) return NONE - 1;
            Cloth c = w.cloths.get(cloth);
            if (what == 0) return c.with;
            if (what == 1) return c.worn;
            if (what == 2) return c.knots.size();
            if (what >= 10 && what <= 13) return what - 10 < c.knots.size() ? c.knots.get(what - 10) : NONE;
            return NONE - 1;
        }

        int thingOf(int thing, int what) {
            if (!isIn(thing, w.things)) return NONE - 1;
            Thing t = w.things.get(thing);
            if (what == 0) return t.of;
            if (what == 1) return t.due;
            if (what == 2) return t.in;
            if (what == 3) return t.tight;
            if (what == 4) return t.is;
            if (what == 5) return t.in == NONE ? NONE : ask(w, "slips", thing, t.in);
            if (what == 6) return t.in == NONE ? NONE : ask(w, "tells", thing, t.in);
            if (what >= 20 && what < 20 + w.cloths.size()) return ask(w, "ties", thing, what - 20);
            return NONE - 1;
        }

        int book(int i, int what) {
            if (!isIn(i, w.book) || what < 0 || what > 3) return NONE - 1;
            Entry e = w.book.get(i);
            return new int[] {e.day, e.what, e.which, e.much}[what];
        }

        World thought(int n) {
            World t = w.copy();
            t.inThought = true;
            while (n-- > 0) day(t);
            return t;
        }

        int goes(int n, int what) {
            if (n < 1 || n > 60) return NONE;
            World t = thought(n);
            switch (what) {
                case 0: return t.persons.stream().mapToInt(p -> p.kept).sum();
                case 1: return t.persons.stream().mapToInt(p -> p.forgot).sum();
                case 2: return t.cloths.stream().mapToInt(c -> c.knots.size()).sum();
                case 3: return t.things.stream().mapToInt(x -> x.tight).sum();
                default: return NONE;
            }
        }

        int fate(int thing) { return isIn(thing, w.things) ? thought(60).things.get(thing).is : NONE; }

        boolean undo() {
            if (undos.isEmpty()) return false;
            w = undos.removeLast();
            return true;
        }

        boolean image(boolean taken) {
            if (taken) {
                imageWorld = w.copy();
                imageLaw = law;
                imageDeeds = deeds;
                imageMinds = minds;
                imageFriends = friends;
                return true;
            }
            if (imageWorld == null) return false;
            w = imageWorld.copy();
            law = imageLaw;
            deeds = imageDeeds;
            minds = imageMinds;
            friends = imageFriends;
            undos.clear();
            return true;
        }

        int look(int what) {
            switch (what) {
                case 0: return w.persons.size();
                case 1: return w.cloths.size();
                case 2: return w.things.size();
                case 3: return bits(w.things.size(), i -> w.things.get(i).is == 0);
                case 4: return bits(w.things.size(), i -> w.things.get(i).is == 1);
                case 5: return w.cloths.stream().mapToInt(c -> c.knots.size()).sum();
                case 6: return w.day;
                case 7: return w.book.size();
                case 8: return w.state;
                case 9: return law.size();
                case 10: return deeds.size();
                case 11: return minds.size();
                case 12: return friends.size();
                case 13: return undos.size();
                default: return -100000;
            }
        }
    }

    /** All tokens first, then the grammar; the first fault is thrown. */
    static final class Reader {
        final List<Token> tokens = new ArrayList<>();
        final World w;
        int at = 0;

        Reader(String s, World w) {
            this.w = w;
            int i = 0;
            while (i < s.length()) {
                int from = i;
                char c = s.charAt(i);
                if (c == ' ' || c == '\n') { i++; continue; }
                if (isLetter(c)) {
                    while (i < s.length() && isLetter(s.charAt(i))) i++;
                    tokens.add(new Token(s.substring(from, i), from, false));
                } else if (c >= '0' && c <= '9') {
                    while (i < s.length() && s.charAt(i) >= '0' && s.charAt(i) <= '9') i++;
                    tokens.add(new Token(i - from > 4 ? "?" : s.substring(from, i), from, i - from <= 4));
                } else {
                    i++;
                    tokens.add(new Token("" + c, from, false));
                }
            }
            tokens.add(new Token("", s.length(), false));
        }

        static boolean isLetter(char c) { return "abcdefghijklmnopqrstuvwxyz".indexOf(Character.toLowerCase(c)) >= 0 && c < 128; }

        Token here() { return tokens.get(at); }

        boolean is(String s) { return here().s.equals(s); }

        Fault fault(int code) { return new Fault(code, here().place); }

        void want(String s) { if (!is(s)) throw fault(1); at++; }

        boolean may(String s) { if (!is(s)) return false; at++; return true; }

        int number(int least, int end, int but) {
            if (!here().isNumber) throw fault(1);
            int v = Integer.parseInt(here().s);
            if (v < least || v >= end || v == but) throw fault(2);
            at++;
            return v;
        }

        List<LawLine> law() {
            List<LawLine> lines = new ArrayList<>();
            while (!is("")) {
                String word = here().s;
                if (!List.of("ties", "slips", "tells").contains(word)) throw fault(1);
                if (lines.size() == 16) throw fault(3);
                at++;
                Value v = e();
                Claim when = may("when") ? b(0) : null;
                want(";");
                lines.add(new LawLine(word, v, when));
            }
            return lines;
        }

        Claim b(int open) {
            Claim x = a(open);
            while (may("or")) { Claim l = x, r = a(open); x = s -> l.isSo(s) || r.isSo(s); }
            return x;
        }

        Claim a(int open) {
            Claim x = c(open);
            while (may("and")) { Claim l = x, r = c(open); x = s -> l.isSo(s) && r.isSo(s); }
            return x;
        }

        Claim c(int open) {
            if ((is("not") || is("(")) && open == 8) throw fault(3);
            if (may("not")) { Claim x = c(open + 1); return s -> !x.isSo(s); }
            if (may("(")) { Claim x = b(open + 1); want(")"); return x; }
            Value l = e();
            String sign = here().s;
            if (!List.of("<", "=", ">").contains(sign)) throw fault(1);
            at++;
            Value r = e();
            if (sign.equals("<")) return s -> l.applyAsInt(s) < r.applyAsInt(s);
            if (sign.equals("=")) return s -> l.applyAsInt(s) == r.applyAsInt(s);
            return s -> l.applyAsInt(s) > r.applyAsInt(s);
        }

        Value e() {
            Value x = t();
            while (is("+") || is("-")) {
                boolean isPlus = is("+");
                at++;
                Value l = x, r = t();
                x = s -> isPlus ? l.applyAsInt(s) + r.applyAsInt(s) : l.applyAsInt(s) - r.applyAsInt(s);
            }
            return x;
        }

        Value t() {
            Value x = u();
            while (is("*") || is("/")) {
                Value l = x;
                if (may("*")) { Value r = u(); x = s -> l.applyAsInt(s) * r.applyAsInt(s); }
                else { at++; int by = number(1, 10000, NONE); x = s -> l.applyAsInt(s) / by; }
            }
            return x;
        }

        Value u() {
            if (here().isNumber) { int n = number(0, 10000, NONE); return s -> n; }
            if (may("mind")) return Seen::mind;
            if (may("tight")) return Seen::tight;
            if (may("worn")) return Seen::worn;
            if (may("knots")) return Seen::knots;
            if (may("knows")) return Seen::knows;
            if (may("kept")) return Seen::kept;
            if (may("forgot")) return Seen::forgot;
            if (may("open")) return Seen::open;
            if (may("day")) return Seen::day;
            throw fault(1);
        }

        List<Line> lines(int k) {
            List<Line> lines = new ArrayList<>();
            while (!is("")) {
                if (!is(k == 3 ? "person" : "on")) throw fault(1);
                if (lines.size() == 16) throw fault(3);
                at++;
                if (k == 3) {
                    int p = number(0, w.persons.size(), NONE);
                    want("knows");
                    lines.add(new Line(0, "", p, number(0, w.persons.size(), p)));
                } else {
                    int day = number(0, 1000, NONE);
                    lines.add(k == 1 ? deed(day) : mind(day));
                }
                want(";");
            }
            return lines;
        }

        Line mind(int day) {
            want("person");
            int p = number(0, w.persons.size(), NONE);
            want("mind");
            return new Line(day, "", p, number(0, 10, NONE));
        }

        Line deed(int day) {
            if (may("tie")) { int t = number(0, w.things.size(), NONE); return new Line(day, "tie", t, number(0, w.cloths.size(), NONE)); }
            if (may("lend")) { int c = number(0, w.cloths.size(), NONE); return new Line(day, "lend", c, number(0, w.persons.size(), NONE)); }
            if (may("wash")) return new Line(day, "wash", number(0, w.cloths.size(), NONE), 0);
            if (may("pull")) return new Line(day, "pull", number(0, w.cloths.size(), NONE), 0);
            throw fault(1);
        }
    }

    /** Texts that are mostly right, some of them spoilt at a place. */
    static final class Writer {
        final Random random;
        final World w;
        final StringBuilder s = new StringBuilder();

        Writer(Random random, World w) { this.random = random; this.w = w; }

        Writer say(String word) {
            if (s.length() > 0 && (random.nextInt(4) == 0 || needsBlank(word))) s.append(random.nextInt(5) == 0 ? '\n' : ' ');
            s.append(word);
            return this;
        }

        boolean needsBlank(String word) {
            char last = s.charAt(s.length() - 1);
            return Character.isLetter(last) && Character.isLetter(word.charAt(0)) || Character.isDigit(last) && Character.isDigit(word.charAt(0));
        }

        Writer number(int end) { return say("" + (random.nextInt(60) == 0 ? end + random.nextInt(2) : random.nextInt(Math.max(1, end)))); }

        void u() {
            String[] words = {"mind", "tight", "worn", "knots", "knows", "kept", "forgot", "open", "day"};
            if (random.nextInt(3) == 0) number(new int[] {3, 10, 1000, 10000}[random.nextInt(4)]);
            else say(words[random.nextInt(words.length)]);
        }

        void e() {
            u();
            while (random.nextInt(5) < 2) {
                switch (random.nextInt(4)) {
                    case 0: say("+"); u(); break;
                    case 1: say("-"); u(); break;
                    case 2: say("*"); u(); break;
                    default: say("/"); say("" + (random.nextInt(20) == 0 ? 0 : 1 + random.nextInt(30)));
                }
            }
        }

        void b(int depth) {
            c(depth);
            while (random.nextInt(4) == 0) { say(random.nextBoolean() ? "or" : "and"); c(depth); }
        }

        void c(int depth) {
            int kind = random.nextInt(4);
            if (depth < 10 && kind == 0) { say("not"); c(depth + 1); }
            else if (depth < 10 && kind == 1) { say("("); b(depth + 1); say(")"); }
            else { e(); say(new String[] {"<", "=", ">"}[random.nextInt(3)]); e(); }
        }

        void lawLine() {
            say(new String[] {"ties", "slips", "tells"}[random.nextInt(3)]);
            if (random.nextBoolean()) say("" + random.nextInt(1100)).say("+");
            e();
            if (random.nextBoolean()) { say("when"); b(0); }
            say(";");
        }

        void deepLine(int depth) {
            say("slips").say("1").say("when");
            int parens = 0;
            for (int i = 0; i < depth; i++) {
                if (random.nextBoolean()) { say("("); parens++; } else say("not");
            }
            say("1").say("=").say("1");
            while (parens-- > 0) say(")");
            say(";");
        }

        void line(int k) {
            int soon = Math.max(1, Math.min(1000, w.day + random.nextInt(6)));
            if (k == 3) { say("person").number(w.persons.size()).say("knows").number(w.persons.size()); }
            else {
                say("on").say("" + (random.nextInt(30) == 0 ? 999 + random.nextInt(2) : Math.max(0, soon - 1)));
                if (k == 2) say("person").number(w.persons.size()).say("mind").number(10);
                else switch (random.nextInt(4)) {
                    case 0: say("tie").number(w.things.size()).number(w.cloths.size()); break;
                    case 1: say("lend").number(w.cloths.size()).number(w.persons.size()); break;
                    case 2: say("wash").number(w.cloths.size()); break;
                    default: say("pull").number(w.cloths.size());
                }
            }
            say(";");
        }

        String write(int k) {
            if (k == 0 && random.nextInt(12) == 0) { deepLine(7 + random.nextInt(3)); }
            int lines = random.nextInt(8) == 0 ? 16 + random.nextInt(2) : random.nextInt(6);
            for (int i = 0; i < lines; i++) if (k == 0) lawLine(); else line(k);
            if (random.nextInt(4) == 0) spoil();
            if (s.length() > 400) s.setLength(400);
            return s.toString();
        }

        void spoil() {
            if (s.length() == 0) return;
            int at = random.nextInt(s.length());
            switch (random.nextInt(4)) {
                case 0: s.deleteCharAt(at); break;
                case 1: s.setCharAt(at, " ;+-*/()<=>.aZ09\n\t\u00e4\0".charAt(random.nextInt(20))); break;
                case 2: s.insert(at, " ;+-*/()<=>,aZ09\n\t\u00ff\0".charAt(random.nextInt(20))); break;
                default: s.setLength(at);
            }
        }
    }

    static void due(int run, String call, long got, long want) {
        if (got != want) {
            wrong++;
            if (wrong < 20) System.out.println("run " + run + ": " + call + " answered " + got + ", due is " + want);
        }
    }

    static int[] numbersOf(String s, int from) {
        int[] numbers = new int[5];
        for (int i = 0; i < 20; i++) {
            char c = from + i < s.length() ? s.charAt(from + i) : ' ';
            numbers[i / 4] = numbers[i / 4] << 8 | c;
        }
        return numbers;
    }

    static void tell(int run, KnotLaundry x, Model m, String s, int k) {
        for (int i = 0; i < s.length(); i += 20) {
            int[] n = numbersOf(s, i);
            due(run, "feed", x.feed(n[0], n[1], n[2], n[3], n[4]), m.feed(n));
        }
        due(run, "end(" + s.length() + ")", x.end(s.length()) ? 1 : 0, m.end(s.length()) ? 1 : 0);
        int want = m.text(k);
        due(run, "text(" + k + ") of " + s, x.text(k), want);
        due(run, "fault(0) of " + s, x.fault(0), m.fault(0));
        due(run, "fault(1) of " + s, x.fault(1), m.fault(1));
        textsTold++;
        faultsSeen[m.fault]++;
    }

    static void compareAll(int run, KnotLaundry x, Model m) {
        for (int i = 0; i < 15; i++) due(run, "look(" + i + ")", x.look(i), m.look(i));
        for (int p = -1; p <= m.w.persons.size(); p++)
            for (int i = -1; i < 8; i++) due(run, "of(" + p + ", " + i + ")", x.of(p, i), m.of(p, i));
        for (int c = -1; c <= m.w.cloths.size(); c++)
            for (int i = -1; i < 15; i++) due(run, "clothOf(" + c + ", " + i + ")", x.clothOf(c, i), m.clothOf(c, i));
        for (int t = -1; t <= m.w.things.size(); t++)
            for (int i = -1; i < 36; i++) due(run, "thingOf(" + t + ", " + i + ")", x.thingOf(t, i), m.thingOf(t, i));
        for (int l = -1; l <= m.w.book.size(); l++)
            for (int i = -1; i < 5; i++) due(run, "book(" + l + ", " + i + ")", x.book(l, i), m.book(l, i));
        for (Entry e : m.w.book) linesSeen[e.what]++;
    }

    static void oneCall(int run, Random r, KnotLaundry x, Model m) {
        World w = m.w;
        int p = r.nextInt(w.persons.size() + 1) - (r.nextInt(20) == 0 ? 1 : 0);
        int c = r.nextInt(w.cloths.size() + 1) - (r.nextInt(20) == 0 ? 1 : 0);
        int t = r.nextInt(w.things.size() + 1) - (r.nextInt(20) == 0 ? 1 : 0);
        int v;
        switch (r.nextInt(26)) {
            case 0: v = r.nextInt(3) == 0 ? r.nextInt() : r.nextInt(5); due(run, "state", x.state(v), m.state(v)); break;
            case 1: v = r.nextInt(12) - 1; due(run, "person(" + v + ")", x.person(v), m.person(v)); break;
            case 2: due(run, "cloth(" + p + ")", x.cloth(p), m.cloth(p)); break;
            case 3: case 4:
                v = r.nextInt(10) == 0 ? r.nextInt(1002) - 1 : Math.min(999, w.day + r.nextInt(8));
                due(run, "thing(" + p + ", " + v + ")", x.thing(p, v), m.thing(p, v));
                break;
            case 5:
                int what = r.nextInt(6) - 1;
                int who = what == 0 ? p : what == 1 ? c : t;
                v = r.nextInt(4) == 0 ? r.nextInt(1003) - 1 : r.nextInt(12) - 1;
                if (what == 1) v = r.nextInt(102) - 1;
                due(run, "set(" + what + ", " + who + ", " + v + ")", x.set(what, who, v) ? 1 : 0, m.set(what, who, v) ? 1 : 0);
                break;
            case 6: case 7: case 8: due(run, "act(0, " + t + ", " + c + ")", x.act(0, t, c) ? 1 : 0, m.act(0, t, c) ? 1 : 0); break;
            case 9: due(run, "act(1, " + c + ", " + p + ")", x.act(1, c, p) ? 1 : 0, m.act(1, c, p) ? 1 : 0); break;
            case 10: due(run, "act(2, " + c + ")", x.act(2, c, t) ? 1 : 0, m.act(2, c, t) ? 1 : 0); break;
            case 11: case 12: due(run, "act(3, " + c + ")", x.act(3, c, -7) ? 1 : 0, m.act(3, c, -7) ? 1 : 0); break;
            case 13: case 14: case 15:
                v = r.nextInt(12) == 0 ? r.nextInt(64) - 1 : r.nextInt(3);
                due(run, "days(" + v + ")", x.days(v), m.days(v));
                break;
            case 16: case 17: tell(run, x, m, new Writer(r, w).write(0), 0); break;
            case 18: tell(run, x, m, new Writer(r, w).write(1), 1); break;
            case 19: v = r.nextInt(3); tell(run, x, m, new Writer(r, w).write(v + 1), v + 1); break;
            case 20: v = r.nextInt(7) - 1; tell(run, x, m, new Writer(r, w).write(Math.max(0, Math.min(3, v))), v); break;
            case 21: case 22:
                boolean isUndone = m.undo();
                undone += isUndone ? 1 : 0;
                due(run, "undo", x.undo() ? 1 : 0, isUndone ? 1 : 0);
                break;
            case 23: boolean taken = r.nextBoolean(); due(run, "image(" + taken + ")", x.image(taken) ? 1 : 0, m.image(taken) ? 1 : 0); break;
            case 24:
                v = r.nextInt(3) == 0 ? r.nextInt(63) - 1 : r.nextInt(8);
                for (int i = -1; i < 5; i++) due(run, "goes(" + v + ", " + i + ")", x.goes(v, i), m.goes(v, i));
                break;
            default: due(run, "fate(" + t + ")", x.fate(t), m.fate(t));
        }
    }

    static void run(int run, Random r) {
        KnotLaundry x = new KnotLaundry();
        Model m = new Model();
        int persons = r.nextInt(5);
        for (int i = 0; i < persons; i++) { int mind = r.nextInt(10); due(run, "person", x.person(mind), m.person(mind)); }
        for (int i = 0; i < 2 * persons; i++) { int p = r.nextInt(persons); due(run, "cloth", x.cloth(p), m.cloth(p)); }
        int calls = 30 + r.nextInt(150);
        for (int i = 0; i < calls && wrong == 0; i++) {
            oneCall(run, r, x, m);
            if (i % 10 == 0 || i == calls - 1) compareAll(run, x, m);
        }
    }

    /** Random runs never come so far: a few days ahead of the last one, where days() refuses and goes() does not. */
    static void runAtTheEnd(int run, Random r) {
        KnotLaundry x = new KnotLaundry();
        Model m = new Model();
        for (int i = 0; i < 3; i++) { due(run, "person", x.person(i), m.person(i)); due(run, "cloth", x.cloth(i), m.cloth(i)); }
        for (int i = 0; i < 166; i++) due(run, "days(60)", x.days(60), m.days(60));
        for (int i = 0; i < 150 && wrong == 0; i++) {
            oneCall(run, r, x, m);
            if (i % 10 == 0) compareAll(run, x, m);
            int n = r.nextInt(62);
            for (int what = 0; what < 4; what++) due(run, "goes(" + n + ", " + what + ")", x.goes(n, what), m.goes(n, what));
        }
        compareAll(run, x, m);
        refusedAtTheEnd += x.days(60) == NONE ? 1 : 0;
    }

    /** A test that never came to some kind of fault or line has not tested it. */
    static void wantSome(String what, int count) {
        if (count == 0) { wrong++; System.out.println("never came to " + what); }
    }

    public static void main(String[] args) {
        int runs = args.length > 0 ? Integer.parseInt(args[0]) : 1500;
        for (int i = 0; i < runs && wrong == 0; i++) run(i, new Random(7919L * i + 1));
        for (int i = 0; i < 20 && wrong == 0; i++) runAtTheEnd(i, new Random(104729L * i + 1));
        for (int i = 0; i < faultsSeen.length; i++) wantSome("fault " + i, faultsSeen[i]);
        for (int i = 0; i < linesSeen.length; i++) wantSome("book's line of kind " + i, linesSeen[i]);
        wantSome("undo", undone);
        wantSome("the last day", refusedAtTheEnd);
        System.out.println("ModelTest: " + textsTold + " texts, faults " + Arrays.toString(faultsSeen) + ", book " + Arrays.toString(linesSeen)
            + ", undone " + undone + (wrong == 0 ? ": all as due" : ": " + wrong + " wrong"));
        if (wrong != 0) System.exit(1);
    }

}
