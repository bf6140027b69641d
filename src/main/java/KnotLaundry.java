import java.util.Arrays;

/**
 * Things to be remembered, tied as knots into other people's handkerchiefs.
 * The numbered promises of the document say what each public method answers.
 */
public final class KnotLaundry {
    public static final int NONE = -1;

    private static final int PERSONS = 12;
    private static final int CLOTHS = 14;
    private static final int THINGS = 20;
    private static final int KNOTS = 4;
    private static final int MOST_MIND = 9;
    private static final int MOST_WORN = 99;
    private static final int MOST_TIGHT = 9;
    private static final int MOST_DUE = 999;
    private static final int LAST_DAY = 9999;
    private static final int DAYS_AT_ONCE = 60;
    private static final int BOOK_LINES = 150;
    private static final int BOOK_COLUMNS = 4;
    private static final int TEXT_LINES = 16;
    private static final int TAPE_BYTES = 400;
    private static final int FED_BYTES = 20;
    private static final int UNDOS = 6;
    private static final int CROSSINGS = 12;
    private static final int ANSWERS = 16;
    private static final int KEYS = 12;
    private static final int ASKED = 16;
    private static final int DIGITS = 10;

    private static final int OPEN = 0;
    private static final int KEPT = 1;
    private static final int FORGOTTEN = 2;

    /** What is done to a cloth, numbered as act() numbers it. */
    private static final int TIE = 0;
    private static final int LEND = 1;
    private static final int WASH = 2;
    private static final int PULL = 3;

    /** What a line of the book tells. */
    private static final int WAS_TIED = 0;
    private static final int WAS_SLIPPED = 1;
    private static final int WAS_KEPT = 2;
    private static final int WAS_FORGOTTEN = 3;
    private static final int WAS_UNTIED = 4;

    /** The texts, numbered as text() numbers them. */
    private static final int LAW = 0;
    private static final int DEEDS = 1;
    private static final int MINDS = 2;
    private static final int FRIENDS = 3;

    /** The words that the law tells something for. */
    private static final int TIES = 0;
    private static final int SLIPS = 1;
    private static final int TELLS = 2;

    private static final int CANT_STAND = 1;
    private static final int OUT_OF_BOUNDS = 2;
    private static final int TOO_MANY = 3;
    private static final int MOST_OPEN_SIGNS = 8;

    /** The law's code: a number of four digits is itself, so all else is numbered above those. */
    private static final int QUANTITY = 10000;
    private static final int QUANTITIES = 9;
    private static final int ADD = 10010;
    private static final int SUBTRACT = 10011;
    private static final int MULTIPLY = 10012;
    private static final int DIVIDE = 10013;
    private static final int LESS = 10014;
    private static final int EQUAL = 10015;
    private static final int MORE = 10016;
    private static final int AND = 10017;
    private static final int OR = 10018;
    private static final int NOT = 10019;

    private final House now = new House();
    private final House pictured = new House();
    private boolean isPictured = false;
    private final World inThought = new World(true);
    private final World[] earlier = new World[UNDOS];
    private int undoable = 0;
    private final Tape tape = new Tape();
    private final LawReader lawReader = new LawReader();
    private final LineReader lineReader = new LineReader();
    private final Puzzles puzzles = new Puzzles();

    public KnotLaundry() {
        for (int i = 0; i < UNDOS; i++) {
            earlier[i] = new World(false);
        }
    }

    public int state(int v) {
        int was = now.world.draws;
        now.world.draws = v;
        undoable = 0;
        return was;
    }

    public int person(int mind) {
        if (!isWithin(mind, 0, MOST_MIND)) {
            return NONE;
        }
        return forgetUndosFor(now.world.addPerson(mind));
    }

    public int cloth(int person) {
        return forgetUndosFor(now.world.addCloth(person));
    }

    public int thing(int person, int due) {
        if (!isWithin(due, 0, MOST_DUE)) {
            return NONE;
        }
        return forgetUndosFor(now.world.addThing(person, due));
    }

    public boolean set(int what, int who, int v) {
        boolean isSet = now.world.change(what, who, v);
        if (isSet) {
            undoable = 0;
        }
        return isSet;
    }

    public boolean act(int what, int who, int v) {
        if (!now.world.canDo(what, who, v)) {
            return false;
        }
        keepForUndo();
        now.doDeed(now.world, what, who, v);
        return true;
    }

    public int days(int n) {
        if (!isWithin(n, 1, DAYS_AT_ONCE) || now.world.day + n > LAST_DAY) {
            return NONE;
        }
        int kept = 0;
        for (int i = 0; i < n; i++) {
            keepForUndo();
            kept += now.passDay(now.world);
        }
        return kept;
    }

    public int feed(int a, int b, int c, int d, int e) {
        if (tape.length + FED_BYTES > TAPE_BYTES) {
            return NONE;
        }
        tape.put(a);
        tape.put(b);
        tape.put(c);
        tape.put(d);
        tape.put(e);
        return tape.length;
    }

    public boolean end(int n) {
        if (!isWithin(n, 0, tape.length)) {
            return false;
        }
        tape.length = n;
        return true;
    }

    public int text(int k) {
        tape.rewind();
        int lines = NONE;
        if (k == LAW && lawReader.readLaw(tape)) {
            now.law.copy(lawReader.law);
            lines = now.law.lines;
        } else if (isWithin(k, DEEDS, FRIENDS) && lineReader.readLines(tape, k, now.world)) {
            lines = tellLines(k);
        }
        tape.length = 0;
        return lines;
    }

    public int fault(int what) {
        switch (what) {
            case 0: return tape.fault;
            case 1: return tape.faultPlace;
            default: return NONE;
        }
    }

    public int of(int person, int what) {
        World w = now.world;
        if (!w.hasPerson(person)) {
            return NONE;
        }
        switch (what) {
            case 0: return w.mind[person];
            case 1: return w.kept[person];
            case 2: return w.forgot[person];
            case 3: return w.leftTo(person);
            case 4: return w.leastDueOf(person);
            case 5: return w.clothsWith(person);
            case 6: return now.friends.friendsOf(person);
            default: return NONE;
        }
    }

    public int clothOf(int cloth, int what) {
        World w = now.world;
        if (!w.hasCloth(cloth)) {
            return NONE - 1;
        }
        switch (what) {
            case 0: return w.with[cloth];
            case 1: return w.worn[cloth];
            case 2: return w.knots[cloth];
            case 10:
            case 11:
            case 12:
            case 13: return w.knotAt(cloth, what - 10);
            default: return NONE - 1;
        }
    }

    public int thingOf(int thing, int what) {
        World w = now.world;
        if (!w.hasThing(thing)) {
            return NONE - 1;
        }
        int cloth = w.in[thing];
        switch (what) {
            case 0: return w.owner[thing];
            case 1: return w.due[thing];
            case 2: return cloth;
            case 3: return w.tight[thing];
            case 4: return w.is[thing];
            case 5: return cloth == NONE ? NONE : now.askLaw(w, SLIPS, thing, cloth);
            case 6: return cloth == NONE ? NONE : now.askLaw(w, TELLS, thing, cloth);
            default: break;
        }
        if (what >= 20 && w.hasCloth(what - 20)) {
            return now.askLaw(w, TIES, thing, what - 20);
        }
        return NONE - 1;
    }

    public int book(int i, int what) {
        if (!isWithin(i, 0, now.world.lines - 1) || !isWithin(what, 0, BOOK_COLUMNS - 1)) {
            return NONE - 1;
        }
        return now.book.read(i, what);
    }

    /** In thought days may go past the last one: only for days() is that a ground to refuse. */
    public int goes(int n, int what) {
        if (!isWithin(n, 1, DAYS_AT_ONCE)) {
            return NONE;
        }
        think(n);
        switch (what) {
            case 0: return sum(inThought.kept, inThought.persons);
            case 1: return sum(inThought.forgot, inThought.persons);
            case 2: return sum(inThought.knots, inThought.cloths);
            case 3: return sum(inThought.tight, inThought.things);
            default: return NONE;
        }
    }

    public int fate(int thing) {
        if (!now.world.hasThing(thing)) {
            return NONE;
        }
        think(DAYS_AT_ONCE);
        return inThought.is[thing];
    }

    public int crossing(int k) {
        if (k == 0) {
            return now.braid.empty();
        }
        return isWithin(k, -4, 4) ? now.braid.tell(k) : NONE;
    }

    public int braid(int p) {
        if (p == NONE) {
            return puzzles.crossingsLeft(now.braid);
        }
        return isWithin(p, 0, 4) ? Puzzles.strandEnd(now.braid, p) : NONE;
    }

    public int turnings(int row, int what) {
        if (!isWithin(what, 0, 1) || !puzzles.layRow(row)) {
            return NONE;
        }
        return what == 0 ? puzzles.fewestTurnings() : puzzles.strangeCouples();
    }

    public int strip(int kf, int i, int what) {
        if (!isWithin(kf, 0, 6 * 64 + 63) || !isWithin(i, 0, (1 << (kf / 64)) - 1)) {
            return NONE;
        }
        switch (what) {
            case 0: return Puzzles.cellAt(kf / 64, kf % 64, i);
            case 1: return Puzzles.folded(kf / 64, kf % 64, i) / 2;
            case 2: return Puzzles.folded(kf / 64, kf % 64, i) % 2;
            default: return NONE;
        }
    }

    public int answer(int v) {
        if (v == NONE) {
            return now.answers.empty();
        }
        return isWithin(v, 0, 1) ? now.answers.tell(v) : NONE;
    }

    public int boxes(int what) {
        switch (what) {
            case 0: return Puzzles.boxAfter(now.answers, now.answers.count);
            case 1: return Puzzles.nextAsked(now.answers);
            default: return NONE;
        }
    }

    public int piles(int c, int p) {
        return isWithin(c, 0, 26) ? Puzzles.dealtTo(c, p) : NONE;
    }

    public int dealt(int t) {
        if (!isWithin(t, 0, 26)) {
            return NONE;
        }
        // The first dealing counts least in the end: its pile's number is divided by 9 till then.
        return 1000 + 100 * (t % 3) + 10 * (t / 3 % 3) + t / 9;
    }

    public int key(int v) {
        if (v == NONE) {
            return now.keys.empty();
        }
        return isWithin(v, 0, 99) ? now.keys.tell(v) : NONE;
    }

    public int table(int m, int v, int what) {
        if (!isWithin(m, 2, 16) || !isWithin(v, 0, 99) || !isWithin(what, 0, 1)) {
            return NONE;
        }
        puzzles.layTable(now.keys, m);
        int looks = puzzles.looksFor(m, v);
        if (what == 1) {
            return looks;
        }
        return puzzles.lastLookFound(m, v, looks);
    }

    public int ask(int v) {
        if (v == NONE) {
            return now.asked.empty();
        }
        return isWithin(v, 0, 9) ? now.asked.tell(v) : NONE;
    }

    public int pages(int k, int what) {
        if (!isWithin(k, 1, 5) || !isWithin(what, 0, 1)) {
            return NONE;
        }
        return Puzzles.misses(now.asked, k, what == 1);
    }

    public int truth(int set, int what) {
        if (!isWithin(set, 0, 65535) || !isWithin(what, 0, 1)) {
            return NONE;
        }
        return what == 0 ? Puzzles.sidesWith(set, 65535) : Puzzles.sidesWith(set, Puzzles.casesOfOneSide(set));
    }

    public int rounds(int n, int r, int i) {
        if (!isWithin(n, 2, 13) || !isWithin(i, 0, n - 1)) {
            return NONE;
        }
        int last = n + n % 2 - 1;
        if (!isWithin(r, 0, last - 1)) {
            return NONE;
        }
        int other = Puzzles.meetsInRound(last, r, i);
        return other < n ? other : NONE;
    }

    public int meets(int n, int i, int j) {
        if (!isWithin(n, 2, 13) || !isWithin(i, 0, n - 1) || !isWithin(j, 0, n - 1) || i == j) {
            return NONE;
        }
        int last = n + n % 2 - 1;
        for (int r = 0; r < last; r++) {
            if (Puzzles.meetsInRound(last, r, i) == j) {
                return r;
            }
        }
        return NONE;
    }

    public int rows(int n, int k) {
        if (!isWithin(n, 0, 10) || !isWithin(k, 0, 10)) {
            return NONE;
        }
        return Puzzles.waysInRows(n, k);
    }

    public int digit(int v) {
        if (v == NONE) {
            return now.digits.empty();
        }
        return isWithin(v, 0, 9) ? now.digits.tell(v) : NONE;
    }

    public int spelt(int i, int v) {
        int ways = Puzzles.spellings(now.digits, 0);
        if (i == NONE) {
            return ways;
        }
        if (!isWithin(i, 0, now.digits.count - 1) || !isWithin(v, 0, ways - 1)) {
            return NONE;
        }
        return Puzzles.letterAt(now.digits, i, v);
    }

    public int game(int n, int full) {
        if (!isWithin(n, 3, 16) || !isWithin(full, 0, (1 << n) - 1)) {
            return NONE;
        }
        return Puzzles.winningPlace(n, full);
    }

    public boolean undo() {
        if (!isWithin(undoable, 1, UNDOS)) {
            return false;
        }
        undoable--;
        World before = earlier[undoable];
        if (before != null) {
            now.world.copy(before);
        }
        return true;
    }

    public boolean image(boolean taken) {
        if (taken) {
            pictured.copy(now);
            isPictured = true;
            return true;
        }
        if (!isPictured) {
            return false;
        }
        now.copy(pictured);
        undoable = 0;
        return true;
    }

    public int look(int what) {
        World w = now.world;
        switch (what) {
            case 0: return w.persons;
            case 1: return w.cloths;
            case 2: return w.things;
            case 3: return w.thingsThatAre(OPEN);
            case 4: return w.thingsThatAre(KEPT);
            case 5: return sum(w.knots, w.cloths);
            case 6: return w.day;
            case 7: return w.lines;
            case 8: return w.draws;
            case 9: return now.law.lines;
            case 10: return now.deeds.count;
            case 11: return now.minds.count;
            case 12: return now.friends.count;
            case 13: return undoable;
            default: return NONE - 99999;
        }
    }

    private static boolean isWithin(int v, int least, int most) {
        return v >= least && v <= most;
    }

    private static int sum(int[] row, int count) {
        int all = 0;
        for (int i = 0; i < count && i < row.length; i++) {
            all += row[i];
        }
        return all;
    }

    private int forgetUndosFor(int added) {
        if (added != NONE) {
            undoable = 0;
        }
        return added;
    }

    /** The oldest world kept is the one written over, so that none is ever made anew. */
    private void keepForUndo() {
        if (undoable >= UNDOS) {
            World oldest = earlier[0];
            for (int i = 1; i < UNDOS; i++) {
                earlier[i - 1] = earlier[i];
            }
            earlier[UNDOS - 1] = oldest;
            undoable = UNDOS - 1;
        }
        World kept = earlier[undoable];
        if (kept != null) {
            kept.copy(now.world);
        }
        undoable++;
    }

    private void think(int n) {
        inThought.copy(now.world);
        for (int i = 0; i < n; i++) {
            now.passDay(inThought);
        }
    }

    private int tellLines(int k) {
        Lines told = k == DEEDS ? now.deeds : k == MINDS ? now.minds : now.friends;
        told.copy(lineReader.lines);
        if (k != FRIENDS) {
            undoable = 0;
        }
        return told.count;
    }

    /** Who and what there is on which day: all that a day or a deed changes, and so all that is undone. */
    private static final class World {
        /** In thought nothing is drawn and no line is written. */
        final boolean isThought;
        int draws = 0;
        int day = 0;
        /** Of the book, whose lines are only ever added to: to undo is to forget the last ones. */
        int lines = 0;
        int persons = 0;
        int cloths = 0;
        int things = 0;
        final int[] mind = new int[PERSONS];
        final int[] kept = new int[PERSONS];
        final int[] forgot = new int[PERSONS];
        final int[] with = new int[CLOTHS];
        final int[] worn = new int[CLOTHS];
        final int[] knots = new int[CLOTHS];
        final int[] knot = new int[CLOTHS * KNOTS];
        final int[] owner = new int[THINGS];
        final int[] due = new int[THINGS];
        final int[] in = new int[THINGS];
        final int[] tight = new int[THINGS];
        final int[] is = new int[THINGS];

        World(boolean isThought) {
            this.isThought = isThought;
        }

        void copy(World other) {
            draws = other.draws;
            day = other.day;
            lines = other.lines;
            persons = other.persons;
            cloths = other.cloths;
            things = other.things;
            System.arraycopy(other.mind, 0, mind, 0, PERSONS);
            System.arraycopy(other.kept, 0, kept, 0, PERSONS);
            System.arraycopy(other.forgot, 0, forgot, 0, PERSONS);
            System.arraycopy(other.with, 0, with, 0, CLOTHS);
            System.arraycopy(other.worn, 0, worn, 0, CLOTHS);
            System.arraycopy(other.knots, 0, knots, 0, CLOTHS);
            System.arraycopy(other.knot, 0, knot, 0, CLOTHS * KNOTS);
            System.arraycopy(other.owner, 0, owner, 0, THINGS);
            System.arraycopy(other.due, 0, due, 0, THINGS);
            System.arraycopy(other.in, 0, in, 0, THINGS);
            System.arraycopy(other.tight, 0, tight, 0, THINGS);
            System.arraycopy(other.is, 0, is, 0, THINGS);
        }

        boolean hasPerson(int p) {
            return p >= 0 && p < persons;
        }

        boolean hasCloth(int c) {
            return c >= 0 && c < cloths;
        }

        boolean hasThing(int t) {
            return t >= 0 && t < things;
        }

        int addPerson(int mindAtFirst) {
            if (persons >= PERSONS) {
                return NONE;
            }
            mind[persons] = mindAtFirst;
            kept[persons] = 0;
            forgot[persons] = 0;
            persons++;
            return persons - 1;
        }

        int addCloth(int person) {
            if (!hasPerson(person) || cloths >= CLOTHS) {
                return NONE;
            }
            with[cloths] = person;
            worn[cloths] = 0;
            knots[cloths] = 0;
            cloths++;
            return cloths - 1;
        }

        int addThing(int person, int dueAtFirst) {
            if (!hasPerson(person) || things >= THINGS) {
                return NONE;
            }
            owner[things] = person;
            due[things] = dueAtFirst;
            in[things] = NONE;
            tight[things] = 0;
            is[things] = OPEN;
            things++;
            return things - 1;
        }

        boolean change(int what, int who, int v) {
            if (what == 0 && hasPerson(who) && isWithin(v, 0, MOST_MIND)) {
                mind[who] = v;
            } else if (what == 1 && hasCloth(who) && isWithin(v, 0, MOST_WORN)) {
                worn[who] = v;
            } else if (what == 2 && isOpen(who) && isWithin(v, 0, MOST_DUE)) {
                due[who] = v;
            } else if (what == 3 && hasThing(who) && in[who] != NONE && isWithin(v, 1, MOST_TIGHT)) {
                tight[who] = v;
            } else {
                return false;
            }
            return true;
        }

        boolean isOpen(int thing) {
            return hasThing(thing) && is[thing] == OPEN;
        }

        /** A set. */
        int thingsThatAre(int what) {
            int set = 0;
            for (int t = 0; t < things; t++) {
                if (is[t] == what) {
                    set |= 1 << t;
                }
            }
            return set;
        }

        int leftTo(int person) {
            int left = 0;
            for (int t = 0; t < things; t++) {
                if (is[t] == OPEN && owner[t] == person) {
                    left++;
                }
            }
            return left;
        }

        int leastDueOf(int person) {
            int least = NONE;
            for (int t = 0; t < things; t++) {
                boolean isToCome = is[t] == OPEN && owner[t] == person && due[t] >= day;
                if (isToCome && (least == NONE || due[t] < least)) {
                    least = due[t];
                }
            }
            return least;
        }

        /** A set. */
        int clothsWith(int person) {
            int set = 0;
            for (int c = 0; c < cloths; c++) {
                if (with[c] == person) {
                    set |= 1 << c;
                }
            }
            return set;
        }

        int knotAt(int cloth, int i) {
            if (!hasCloth(cloth) || i < 0 || i >= KNOTS || i >= knots[cloth]) {
                return NONE;
            }
            return knot[cloth * KNOTS + i];
        }

        /** Whom the cloth that a thing is in is with, NONE if it is in none. */
        int holderOf(int thing) {
            if (!hasThing(thing) || !hasCloth(in[thing])) {
                return NONE;
            }
            return with[in[thing]];
        }

        boolean canDo(int deed, int who, int v) {
            switch (deed) {
                case TIE: return isOpen(who) && in[who] == NONE && hasCloth(v) && knots[v] < KNOTS;
                case LEND: return hasCloth(who) && hasPerson(v) && with[who] != v;
                case WASH: return hasCloth(who);
                case PULL: return hasCloth(who) && knots[who] > 0;
                default: return false;
            }
        }

        void addKnot(int thing, int cloth, int howTight) {
            if (!hasThing(thing) || !hasCloth(cloth) || knots[cloth] >= KNOTS) {
                return;
            }
            knot[cloth * KNOTS + knots[cloth]] = thing;
            knots[cloth]++;
            in[thing] = cloth;
            tight[thing] = howTight;
        }

        void untie(int thing) {
            if (!hasThing(thing)) {
                return;
            }
            int cloth = in[thing];
            if (hasCloth(cloth)) {
                int left = 0;
                for (int i = 0; i < KNOTS && i < knots[cloth]; i++) {
                    int other = knot[cloth * KNOTS + i];
                    if (other != thing) {
                        knot[cloth * KNOTS + left] = other;
                        left++;
                    }
                }
                knots[cloth] = left;
            }
            in[thing] = NONE;
            tight[thing] = 0;
        }

        /** Whether what is likely by so many of a thousand comes about; what can't come about draws nothing. */
        boolean happens(int likely) {
            if (isThought) {
                return likely >= 500;
            }
            return likely > 0 && drawThousand() < likely;
        }

        private int drawThousand() {
            draws = 1664525 * draws + 1013904223;
            return (draws >>> 8) % 1000;
        }
    }

    /** The lines in which each knot is led to its corner; how many of them count stands in the world. */
    private static final class Book {
        final int[] cells = new int[BOOK_LINES * BOOK_COLUMNS];

        void copy(Book other) {
            System.arraycopy(other.cells, 0, cells, 0, cells.length);
        }

        int read(int line, int column) {
            if (!isWithin(line, 0, BOOK_LINES - 1) || !isWithin(column, 0, BOOK_COLUMNS - 1)) {
                return NONE - 1;
            }
            return cells[line * BOOK_COLUMNS + column];
        }

        void write(World w, int what, int thing, int howMuch) {
            if (w.isThought || !isWithin(w.lines, 0, BOOK_LINES - 1)) {
                return;
            }
            int first = w.lines * BOOK_COLUMNS;
            cells[first] = w.day;
            cells[first + 1] = what;
            cells[first + 2] = thing;
            cells[first + 3] = howMuch;
            w.lines++;
        }
    }

    /** The law, each line as code that is worked off on a stack: what it tells, and when. */
    private static final class Law {
        int lines = 0;
        int codes = 0;
        final int[] word = new int[TEXT_LINES];
        /** Where in the code a line's expression begins, where its condition begins, where that ends. */
        final int[] from = new int[TEXT_LINES];
        final int[] when = new int[TEXT_LINES];
        final int[] to = new int[TEXT_LINES];
        /** A token makes one code at most, and a byte one token at most. */
        final int[] code = new int[TAPE_BYTES];
        final int[] stack = new int[TAPE_BYTES];

        void copy(Law other) {
            lines = other.lines;
            codes = other.codes;
            System.arraycopy(other.word, 0, word, 0, TEXT_LINES);
            System.arraycopy(other.from, 0, from, 0, TEXT_LINES);
            System.arraycopy(other.when, 0, when, 0, TEXT_LINES);
            System.arraycopy(other.to, 0, to, 0, TEXT_LINES);
            System.arraycopy(other.code, 0, code, 0, TAPE_BYTES);
        }

        void empty() {
            lines = 0;
            codes = 0;
        }

        void put(int c) {
            if (codes < TAPE_BYTES) {
                code[codes] = c;
                codes++;
            }
        }

        void addLine(int itsWord, int itsFrom, int itsWhen) {
            if (lines < TEXT_LINES) {
                word[lines] = itsWord;
                from[lines] = itsFrom;
                when[lines] = itsWhen;
                to[lines] = codes;
                lines++;
            }
        }

        /** The first line for a word whose condition is so, NONE if there is none. */
        int lineFor(int asked, int[] seen) {
            for (int i = 0; i < lines && i < TEXT_LINES; i++) {
                if (word[i] == asked && (when[i] == to[i] || worth(when[i], to[i], seen) != 0)) {
                    return i;
                }
            }
            return NONE;
        }

        int told(int line, int[] seen) {
            return isWithin(line, 0, TEXT_LINES - 1) ? worth(from[line], when[line], seen) : 0;
        }

        private int worth(int begin, int stop, int[] seen) {
            int top = 0;
            for (int i = Math.max(begin, 0); i < stop && i < TAPE_BYTES; i++) {
                int c = code[i];
                if (c < ADD) {
                    int q = c - QUANTITY;
                    if (top < TAPE_BYTES) {
                        stack[top] = q >= 0 && q < seen.length ? seen[q] : c;
                        top++;
                    }
                } else if (c == NOT) {
                    if (top > 0) {
                        stack[top - 1] = 1 - stack[top - 1];
                    }
                } else if (top > 1) {
                    top--;
                    int a = stack[top - 1];
                    int b = stack[top];
                    switch (c) {
                        case ADD: a += b; break;
                        case SUBTRACT: a -= b; break;
                        case MULTIPLY: a *= b; break;
                        case DIVIDE: a = b == 0 ? 0 : a / b; break;
                        case LESS: a = a < b ? 1 : 0; break;
                        case EQUAL: a = a == b ? 1 : 0; break;
                        case MORE: a = a > b ? 1 : 0; break;
                        case AND: a &= b; break;
                        case OR: a |= b; break;
                        default: break;
                    }
                    stack[top - 1] = a;
                }
            }
            return top > 0 ? stack[top - 1] : 0;
        }
    }

    /** The lines of deeds, minds or friends; what a text does not tell stays 0. */
    private static final class Lines {
        int count = 0;
        final int[] day = new int[TEXT_LINES];
        final int[] deed = new int[TEXT_LINES];
        final int[] first = new int[TEXT_LINES];
        final int[] second = new int[TEXT_LINES];

        void copy(Lines other) {
            count = other.count;
            System.arraycopy(other.day, 0, day, 0, TEXT_LINES);
            System.arraycopy(other.deed, 0, deed, 0, TEXT_LINES);
            System.arraycopy(other.first, 0, first, 0, TEXT_LINES);
            System.arraycopy(other.second, 0, second, 0, TEXT_LINES);
        }

        void add(int itsDay, int itsDeed, int itsFirst, int itsSecond) {
            if (count < TEXT_LINES) {
                day[count] = itsDay;
                deed[count] = itsDeed;
                first[count] = itsFirst;
                second[count] = itsSecond;
                count++;
            }
        }

        /** Of the lines of friends, a set. */
        int friendsOf(int person) {
            int set = 0;
            for (int i = 0; i < count && i < TEXT_LINES; i++) {
                if (first[i] == person) {
                    set |= 1 << second[i];
                }
                if (second[i] == person) {
                    set |= 1 << first[i];
                }
            }
            return set;
        }
    }

    /** A row that is told number by number. */
    private static final class Told {
        int count = 0;
        final int[] row;

        Told(int most) {
            row = new int[Math.max(most, 0)];
        }

        void copy(Told other) {
            count = Math.min(other.count, row.length);
            for (int i = 0; i < count && i < other.row.length; i++) {
                row[i] = other.row[i];
            }
        }

        int empty() {
            count = 0;
            return 0;
        }

        int tell(int v) {
            if (count >= row.length) {
                return NONE;
            }
            row[count] = v;
            count++;
            return count;
        }

        int get(int i) {
            return i >= 0 && i < row.length ? row[i] : 0;
        }
    }

    /** All that an image holds: a world and all that was told, and what they do together. */
    private static final class House {
        final World world = new World(false);
        final Book book = new Book();
        final Law law = new Law();
        final Lines deeds = new Lines();
        final Lines minds = new Lines();
        final Lines friends = new Lines();
        final Told braid = new Told(CROSSINGS);
        final Told answers = new Told(ANSWERS);
        final Told keys = new Told(KEYS);
        final Told asked = new Told(ASKED);
        final Told digits = new Told(DIGITS);
        /** What the law's words mean for the thing and the cloth that it is asked for. */
        final int[] seen = new int[QUANTITIES];

        void copy(House other) {
            world.copy(other.world);
            book.copy(other.book);
            law.copy(other.law);
            deeds.copy(other.deeds);
            minds.copy(other.minds);
            friends.copy(other.friends);
            braid.copy(other.braid);
            answers.copy(other.answers);
            keys.copy(other.keys);
            asked.copy(other.asked);
            digits.copy(other.digits);
        }

        int askLaw(World w, int word, int thing, int cloth) {
            if (!w.hasThing(thing) || !w.hasCloth(cloth)) {
                return 0;
            }
            see(w, thing, cloth);
            int line = law.lineFor(word, seen);
            int told = line == NONE ? customary(word) : law.told(line, seen);
            return word == TIES ? held(told, 1, MOST_TIGHT) : held(told, 0, 1000);
        }

        private void see(World w, int thing, int cloth) {
            int holder = w.with[cloth];
            int owner = w.owner[thing];
            if (!w.hasPerson(holder) || !w.hasPerson(owner)) {
                return;
            }
            seen[0] = w.mind[holder];
            seen[1] = w.tight[thing];
            seen[2] = w.worn[cloth];
            seen[3] = w.knots[cloth];
            seen[4] = holder == owner ? 2 : friends.friendsOf(owner) >>> holder & 1;
            seen[5] = w.kept[owner];
            seen[6] = w.forgot[owner];
            seen[7] = Integer.bitCount(w.thingsThatAre(OPEN));
            seen[8] = w.day;
        }

        private int customary(int word) {
            switch (word) {
                case TIES: return 1 + seen[0] / 2;
                case SLIPS: return 900 - 100 * seen[1];
                default: return 300 * seen[4] + 50 * seen[0];
            }
        }

        private static int held(int v, int least, int most) {
            return Math.max(least, Math.min(most, v));
        }

        /** A deed that can't be done is passed over. */
        void doDeed(World w, int deed, int who, int v) {
            if (!w.canDo(deed, who, v)) {
                return;
            }
            switch (deed) {
                case TIE: tie(w, who, v); break;
                case LEND: w.with[who] = v; break;
                case WASH: wash(w, who); break;
                case PULL: pull(w, who); break;
                default: break;
            }
        }

        private void tie(World w, int thing, int cloth) {
            int howTight = askLaw(w, TIES, thing, cloth);
            w.addKnot(thing, cloth, howTight);
            book.write(w, WAS_TIED, thing, howTight);
        }

        private void wash(World w, int cloth) {
            w.worn[cloth] = Math.min(MOST_WORN, w.worn[cloth] + 1);
            int place = 0;
            for (int i = w.knots[cloth]; i > 0; i--) {
                int thing = w.knotAt(cloth, place);
                if (w.happens(askLaw(w, SLIPS, thing, cloth))) {
                    w.untie(thing);
                    book.write(w, WAS_SLIPPED, thing, cloth);
                } else {
                    place++;
                }
            }
        }

        private void pull(World w, int cloth) {
            int thing = w.knotAt(cloth, w.knots[cloth] - 1);
            if (!w.hasThing(thing)) {
                return;
            }
            w.tight[thing]--;
            if (w.tight[thing] <= 0) {
                w.untie(thing);
                book.write(w, WAS_UNTIED, thing, cloth);
            }
        }

        /** How many things are kept on it. */
        int passDay(World w) {
            for (int i = 0; i < minds.count && i < TEXT_LINES; i++) {
                int person = minds.first[i];
                if (minds.day[i] == w.day && w.hasPerson(person)) {
                    w.mind[person] = minds.second[i];
                }
            }
            for (int i = 0; i < deeds.count && i < TEXT_LINES; i++) {
                if (deeds.day[i] == w.day) {
                    doDeed(w, deeds.deed[i], deeds.first[i], deeds.second[i]);
                }
            }
            int kept = 0;
            for (int t = 0; t < w.things; t++) {
                if (w.is[t] == OPEN && w.due[t] == w.day) {
                    boolean isKept = isTold(w, t);
                    settle(w, t, isKept);
                    kept += isKept ? 1 : 0;
                }
            }
            w.day++;
            return kept;
        }

        private boolean isTold(World w, int thing) {
            int holder = w.holderOf(thing);
            if (holder == NONE) {
                return false;
            }
            return holder == w.owner[thing] || w.happens(askLaw(w, TELLS, thing, w.in[thing]));
        }

        private void settle(World w, int thing, boolean isKept) {
            int owner = w.owner[thing];
            if (!w.hasPerson(owner)) {
                return;
            }
            w.is[thing] = isKept ? KEPT : FORGOTTEN;
            if (isKept) {
                w.kept[owner]++;
            } else {
                w.forgot[owner]++;
            }
            book.write(w, isKept ? WAS_KEPT : WAS_FORGOTTEN, thing, w.holderOf(thing));
            w.untie(thing);
        }
    }

    /** The bytes that a text is made of, read token by token, and the first fault in them. */
    private static final class Tape {
        /** What a token is: a sign is its byte, so all else is numbered above those. */
        static final int END = 256;
        static final int NUMBER = 257;
        static final int STRANGE = 258;
        static final int FIRST_WORD = 300;
        static final int TIES_WORD = 300;
        static final int TELLS_WORD = 302;
        static final int MIND_WORD = 303;
        static final int KNOWS_WORD = 307;
        static final int DAY_WORD = 311;
        static final int TIE_WORD = 312;
        static final int PULL_WORD = 315;
        static final int WHEN_WORD = 316;
        static final int OR_WORD = 317;
        static final int AND_WORD = 318;
        static final int NOT_WORD = 319;
        static final int ON_WORD = 320;
        static final int PERSON_WORD = 321;
        /** All texts' keywords by their numbers; one of another text can't stand anywhere, just as no keyword can't. */
        static final String WORDS =
            "ties slips tells mind tight worn knots knows kept forgot open day tie lend wash pull when or and not on person ";

        int length = 0;
        final int[] bytes = new int[TAPE_BYTES];
        int token = END;
        /** What a number is worth. */
        int worth = 0;
        int start = 0;
        int stop = 0;
        int fault = 0;
        int faultPlace = NONE;

        /** Its four bytes, if there is room. */
        void put(int number) {
            for (int shift = 24; shift >= 0 && length < TAPE_BYTES; shift -= 8) {
                bytes[length] = number >>> shift & 255;
                length++;
            }
        }

        void rewind() {
            stop = 0;
            fault = 0;
            faultPlace = NONE;
        }

        void next() {
            start = stop;
            while (start < length && start < TAPE_BYTES && (bytes[start] == 32 || bytes[start] == 10)) {
                start++;
            }
            stop = start;
            if (start >= length || start >= TAPE_BYTES) {
                token = END;
                return;
            }
            worth = 0;
            while (stop < length && stop < TAPE_BYTES && isDigit(bytes[stop])) {
                worth = 10 * worth + bytes[stop] - '0';
                stop++;
            }
            if (stop > start) {
                token = stop - start <= 4 ? NUMBER : STRANGE;
                return;
            }
            while (stop < length && stop < TAPE_BYTES && isLetter(bytes[stop])) {
                stop++;
            }
            if (stop > start) {
                token = keyword();
                return;
            }
            token = bytes[start];
            stop++;
        }

        private static boolean isLetter(int b) {
            return b >= 'a' && b <= 'z' || b >= 'A' && b <= 'Z';
        }

        private static boolean isDigit(int b) {
            return b >= '0' && b <= '9';
        }

        /** The number of the keyword that stands from start to stop. */
        private int keyword() {
            int word = FIRST_WORD;
            int place = start;
            boolean isAlike = true;
            for (int i = 0; i < WORDS.length(); i++) {
                char c = WORDS.charAt(i);
                if (c != ' ') {
                    isAlike = isAlike && place < stop && place < TAPE_BYTES && bytes[place] == c;
                    place++;
                } else if (isAlike && place == stop) {
                    return word;
                } else {
                    word++;
                    place = start;
                    isAlike = true;
                }
            }
            return STRANGE;
        }

        /** A fault at this token; false, so that a reader can end with it. */
        boolean refuse(int itsFault) {
            fault = itsFault;
            faultPlace = start;
            return false;
        }

        boolean take(int wanted) {
            if (token != wanted) {
                return refuse(CANT_STAND);
            }
            next();
            return true;
        }

        /** Whether a number stands here that is within its bounds; it is refused if not. */
        boolean isNumber(int least, int most) {
            if (token != NUMBER) {
                return refuse(CANT_STAND);
            }
            return isWithin(worth, least, most) || refuse(OUT_OF_BOUNDS);
        }
    }

    /** Reads the law into a law of its own, so that the one in force stays if there is a fault. */
    private static final class LawReader {
        final Law law = new Law();

        boolean readLaw(Tape tape) {
            law.empty();
            tape.next();
            for (int i = 0; i < TAPE_BYTES && tape.token != Tape.END; i++) {
                int word = tape.token - Tape.TIES_WORD;
                if (!isWithin(tape.token, Tape.TIES_WORD, Tape.TELLS_WORD)) {
                    return tape.refuse(CANT_STAND);
                }
                if (law.lines >= TEXT_LINES) {
                    return tape.refuse(TOO_MANY);
                }
                tape.next();
                int from = law.codes;
                if (!readSum(tape)) {
                    return false;
                }
                int when = law.codes;
                if (tape.token == Tape.WHEN_WORD) {
                    tape.next();
                    if (!readCondition(tape, 0)) {
                        return false;
                    }
                }
                if (!tape.take(';')) {
                    return false;
                }
                law.addLine(word, from, when);
            }
            return true;
        }

        /** B of the document, with its A; open is how many signs ( and not are open. */
        private boolean readCondition(Tape tape, int open) {
            boolean hasOr = false;
            boolean isAnd = false;
            for (int i = 0; i < TAPE_BYTES; i++) {
                if (!readClaim(tape, open)) {
                    return false;
                }
                if (isAnd) {
                    law.put(AND);
                }
                isAnd = tape.token == Tape.AND_WORD;
                if (!isAnd) {
                    // What was read since the latest or is whole, and can be joined to what was read ahead of it.
                    if (hasOr) {
                        law.put(OR);
                    }
                    hasOr = true;
                    if (tape.token != Tape.OR_WORD) {
                        return true;
                    }
                }
                tape.next();
            }
            return true;
        }

        /** C of the document. */
        private boolean readClaim(Tape tape, int open) {
            int sign = tape.token;
            if (sign == Tape.NOT_WORD || sign == '(') {
                if (open >= MOST_OPEN_SIGNS) {
                    return tape.refuse(TOO_MANY);
                }
                tape.next();
                if (sign == '(') {
                    return readCondition(tape, open + 1) && tape.take(')');
                }
                if (!readClaim(tape, open + 1)) {
                    return false;
                }
                law.put(NOT);
                return true;
            }
            if (!readSum(tape)) {
                return false;
            }
            int beside = tape.token == '<' ? LESS : tape.token == '=' ? EQUAL : tape.token == '>' ? MORE : NONE;
            if (beside == NONE) {
                return tape.refuse(CANT_STAND);
            }
            tape.next();
            if (!readSum(tape)) {
                return false;
            }
            law.put(beside);
            return true;
        }

        /** E of the document. */
        private boolean readSum(Tape tape) {
            int sign = NONE;
            for (int i = 0; i < TAPE_BYTES; i++) {
                if (!readProduct(tape)) {
                    return false;
                }
                if (sign != NONE) {
                    law.put(sign);
                }
                sign = tape.token == '+' ? ADD : tape.token == '-' ? SUBTRACT : NONE;
                if (sign == NONE) {
                    return true;
                }
                tape.next();
            }
            return true;
        }

        /** T of the document, with its U. */
        private boolean readProduct(Tape tape) {
            int sign = NONE;
            for (int i = 0; i < TAPE_BYTES; i++) {
                if (sign == DIVIDE && !tape.isNumber(1, QUANTITY - 1)) {
                    return false;
                }
                if (tape.token == Tape.NUMBER) {
                    law.put(tape.worth);
                } else if (isWithin(tape.token, Tape.MIND_WORD, Tape.DAY_WORD)) {
                    law.put(QUANTITY + tape.token - Tape.MIND_WORD);
                } else {
                    return tape.refuse(CANT_STAND);
                }
                tape.next();
                if (sign != NONE) {
                    law.put(sign);
                }
                sign = tape.token == '*' ? MULTIPLY : tape.token == '/' ? DIVIDE : NONE;
                if (sign == NONE) {
                    return true;
                }
                tape.next();
            }
            return true;
        }
    }

    /** Reads deeds, minds or friends into lines of its own, so that those in force stay if there is a fault. */
    private static final class LineReader {
        final Lines lines = new Lines();
        private int taken = 0;

        boolean readLines(Tape tape, int k, World w) {
            lines.count = 0;
            tape.next();
            for (int i = 0; i < TAPE_BYTES && tape.token != Tape.END; i++) {
                if (!readLine(tape, k, w)) {
                    return false;
                }
            }
            return true;
        }

        private boolean readLine(Tape tape, int k, World w) {
            if (tape.token != (k == FRIENDS ? Tape.PERSON_WORD : Tape.ON_WORD)) {
                return tape.refuse(CANT_STAND);
            }
            if (lines.count >= TEXT_LINES) {
                return tape.refuse(TOO_MANY);
            }
            tape.next();
            if (k == FRIENDS) {
                return readFriends(tape, w) && tape.take(';');
            }
            if (!takeNumber(tape, MOST_DUE)) {
                return false;
            }
            boolean isRead = k == DEEDS ? readDeed(tape, taken, w) : readMind(tape, taken, w);
            return isRead && tape.take(';');
        }

        private boolean takeNumber(Tape tape, int most) {
            if (!tape.isNumber(0, most)) {
                return false;
            }
            taken = tape.worth;
            tape.next();
            return true;
        }

        private boolean readDeed(Tape tape, int day, World w) {
            if (!isWithin(tape.token, Tape.TIE_WORD, Tape.PULL_WORD)) {
                return tape.refuse(CANT_STAND);
            }
            int deed = TIE + tape.token - Tape.TIE_WORD;
            tape.next();
            if (!takeNumber(tape, (deed == TIE ? w.things : w.cloths) - 1)) {
                return false;
            }
            int first = taken;
            boolean hasSecond = deed == TIE || deed == LEND;
            if (hasSecond && !takeNumber(tape, (deed == TIE ? w.cloths : w.persons) - 1)) {
                return false;
            }
            lines.add(day, deed, first, hasSecond ? taken : 0);
            return true;
        }

        private boolean readMind(Tape tape, int day, World w) {
            if (!tape.take(Tape.PERSON_WORD) || !takeNumber(tape, w.persons - 1)) {
                return false;
            }
            int person = taken;
            if (!tape.take(Tape.MIND_WORD) || !takeNumber(tape, MOST_MIND)) {
                return false;
            }
            lines.add(day, 0, person, taken);
            return true;
        }

        private boolean readFriends(Tape tape, World w) {
            if (!takeNumber(tape, w.persons - 1)) {
                return false;
            }
            int person = taken;
            if (!tape.take(Tape.KNOWS_WORD) || !tape.isNumber(0, w.persons - 1)) {
                return false;
            }
            if (tape.worth == person) {
                return tape.refuse(OUT_OF_BOUNDS);
            }
            lines.add(0, 0, person, tape.worth);
            tape.next();
            return true;
        }
    }

    /** What is only thought, beside how days go. */
    private static final class Puzzles {
        private static final int MOST_TURNINGS = 8;
        /** The cases in which a thing is so. */
        private static final int[] CASES_WITH = {0xAAAA, 0xCCCC, 0xF0F0, 0xFF00};
        /**
         * What a run of so many free places is worth: the least number to which no filling of a place leads.
         * With a place filled the two next to it on each side are lost, for whoever fills one of these loses;
         * so of 16 places 13 at most are left in a run.
         */
        private static final int[] NIMBERS = {0, 1, 1, 1, 2, 2, 0, 3, 3, 1, 1, 1, 0, 4};

        private final int[] stack = new int[CROSSINGS];
        private final int[] laid = new int[7];
        private int laidCount = 0;
        private final int[] places = new int[16];

        static int strandEnd(Told braid, int p) {
            int place = p;
            for (int i = 0; i < braid.count; i++) {
                int k = Math.abs(braid.get(i));
                if (place == k) {
                    place = k - 1;
                } else if (place == k - 1) {
                    place = k;
                }
            }
            return place;
        }

        int crossingsLeft(Told braid) {
            int top = 0;
            for (int i = 0; i < braid.count; i++) {
                int k = braid.get(i);
                if (top > 0 && top <= stack.length && stack[top - 1] == -k) {
                    top--;
                } else if (top < stack.length) {
                    stack[top] = k;
                    top++;
                }
            }
            return top;
        }

        /** Lays the digits behind a 1; false if these are not 0 .. n - 1, each once. */
        boolean layRow(int row) {
            int digits = 0;
            int power = 1;
            while (digits < laid.length && row >= 2 * power) {
                digits++;
                power *= 10;
            }
            if (digits == 0 || row < power || row >= 2 * power) {
                return false;
            }
            int rest = row - power;
            int seen = 0;
            for (int i = digits - 1; i >= 0; i--) {
                laid[i] = rest % 10;
                seen |= 1 << laid[i];
                rest /= 10;
            }
            laidCount = digits;
            return seen == (1 << digits) - 1;
        }

        int strangeCouples() {
            int couples = 0;
            for (int i = 1; i < laidCount && i < laid.length; i++) {
                if (Math.abs(laid[i] - laid[i - 1]) != 1) {
                    couples++;
                }
            }
            return couples;
        }

        int fewestTurnings() {
            for (int n = 0; n <= MOST_TURNINGS; n++) {
                if (isInOrderBy(n)) {
                    return n;
                }
            }
            return NONE;
        }

        /** A turning parts one couple alone, so each strange one wants a turning; a last one out of place does, too. */
        private boolean isInOrderBy(int turnings) {
            int wanted = strangeCouples();
            if (laidCount > 0 && laidCount <= laid.length && laid[laidCount - 1] != laidCount - 1) {
                wanted++;
            }
            if (wanted == 0) {
                return true;
            }
            if (wanted > turnings) {
                return false;
            }
            for (int n = 2; n <= laidCount; n++) {
                turn(n);
                boolean isDone = isInOrderBy(turnings - 1);
                turn(n);
                if (isDone) {
                    return true;
                }
            }
            return false;
        }

        private void turn(int n) {
            if (n < 0 || n > laid.length) {
                return;
            }
            for (int i = 0; i < n / 2; i++) {
                int other = laid[i];
                laid[i] = laid[n - 1 - i];
                laid[n - 1 - i] = other;
            }
        }

        static int cellAt(int k, int f, int place) {
            for (int cell = 0; cell < 1 << k; cell++) {
                if (folded(k, f, cell) / 2 == place) {
                    return cell;
                }
            }
            return NONE;
        }

        /** Twice the place from above at which a cell lies at last, and one more if it lies face up. */
        static int folded(int k, int f, int cell) {
            int pile = cell;
            int place = 0;
            int face = 1;
            int height = 1;
            for (int fold = 0; fold < k; fold++) {
                int half = 1 << (k - fold - 1);
                boolean isLeftTurned = (f >>> fold & 1) == 1;
                if (isLeftTurned == pile < half) {
                    place = height - 1 - place;
                    face = 1 - face;
                    pile = isLeftTurned ? half - 1 - pile : 2 * half - 1 - pile;
                } else {
                    place += height;
                    pile = isLeftTurned ? pile - half : pile;
                }
                height *= 2;
            }
            return 2 * place + face;
        }

        /** The box behind the first n answers. */
        static int boxAfter(Told answers, int n) {
            int box = 1;
            for (int i = 0; i < n; i++) {
                box = answers.get(i) == 1 ? Math.min(5, box + 1) : 1;
            }
            return box;
        }

        static int nextAsked(Told answers) {
            int day = 0;
            for (int i = 1; i <= answers.count; i++) {
                day += 1 << (boxAfter(answers, i) - 1);
            }
            return day;
        }

        /** Where a card comes by the digits of p, NONE if these can't be. */
        static int dealtTo(int card, int p) {
            if (!isWithin(p, 1000, 1222)) {
                return NONE;
            }
            int place = card;
            int power = 100;
            for (int i = 0; i < 3; i++) {
                int a = power == 0 ? 0 : p / power % 10;
                if (a > 2) {
                    return NONE;
                }
                place = 9 * a + place / 3;
                power /= 10;
            }
            return place;
        }

        void layTable(Told keys, int m) {
            Arrays.fill(places, NONE);
            for (int i = 0; i < keys.count; i++) {
                int key = keys.get(i);
                int place = placeBehind(m, key, looksFor(m, key) - 1);
                if (isPlace(place) && places[place] == NONE) {
                    places[place] = key;
                }
            }
        }

        /** At how many places of m one looks for a key. */
        int looksFor(int m, int key) {
            for (int i = 0; i < m; i++) {
                int place = placeBehind(m, key, i);
                if (isPlace(place) && (places[place] == NONE || places[place] == key)) {
                    return i + 1;
                }
            }
            return m;
        }

        int lastLookFound(int m, int key, int looks) {
            int place = placeBehind(m, key, looks - 1);
            return isPlace(place) && places[place] == key ? place : NONE;
        }

        private static int placeBehind(int m, int key, int steps) {
            return m <= 0 ? NONE : (key + steps) % m;
        }

        private boolean isPlace(int place) {
            return place >= 0 && place < places.length;
        }

        /** How often one asked for is not among the k kept (a set). */
        static int misses(Told asked, int k, boolean isAtFewest) {
            int kept = 0;
            int missed = 0;
            for (int i = 0; i < asked.count; i++) {
                int page = 1 << asked.get(i);
                if ((kept & page) == 0) {
                    missed++;
                    if (Integer.bitCount(kept) >= k) {
                        kept ^= 1 << whichGoes(asked, i, kept, isAtFewest);
                    }
                    kept |= page;
                }
            }
            return missed;
        }

        /** At the fewest misses the one goes that is asked for again the latest, or never. */
        private static int whichGoes(Told asked, int time, int kept, boolean isAtFewest) {
            int goer = 0;
            int farthest = NONE;
            for (int page = 0; page < 10; page++) {
                int far = isAtFewest ? stepsTo(asked, time, page, 1) : stepsTo(asked, time, page, -1);
                if ((kept >>> page & 1) == 1 && far > farthest) {
                    farthest = far;
                    goer = page;
                }
            }
            return goer;
        }

        /** How far from a time a page is asked for, onwards (1) or backwards (-1); beyond all if it is not. */
        private static int stepsTo(Told asked, int time, int page, int direction) {
            for (int steps = 1; steps < ASKED; steps++) {
                int other = time + direction * steps;
                if (other >= 0 && other < asked.count && asked.get(other) == page) {
                    return steps;
                }
            }
            return ASKED;
        }

        /** How many sides of a set have one of some cases. */
        static int sidesWith(int set, int cases) {
            int sides = 0;
            for (int told = 0; told < 16; told++) {
                for (int as = 0; as < 16; as++) {
                    if (isSide(set, told, as) && (casesOf(told, as) & cases) != 0) {
                        sides++;
                    }
                }
            }
            return sides;
        }

        /** The cases that just one side has. */
        static int casesOfOneSide(int set) {
            int once = 0;
            int more = 0;
            for (int told = 0; told < 16; told++) {
                for (int as = 0; as < 16; as++) {
                    if (isSide(set, told, as)) {
                        int cases = casesOf(told, as);
                        more |= once & cases;
                        once |= cases;
                    }
                }
            }
            return once & ~more;
        }

        /** In a side the things of told are as in as. If any greater one is true, one with one thing less told is. */
        private static boolean isSide(int set, int told, int as) {
            if ((as & ~told) != 0 || (casesOf(told, as) & ~set) != 0) {
                return false;
            }
            for (int thing = 1; thing < 16; thing *= 2) {
                if ((told & thing) != 0 && (casesOf(told & ~thing, as & ~thing) & ~set) == 0) {
                    return false;
                }
            }
            return true;
        }

        private static int casesOf(int told, int as) {
            int cases = 65535;
            for (int thing = 0; thing < CASES_WITH.length; thing++) {
                if ((told >>> thing & 1) == 1) {
                    cases &= (as >>> thing & 1) == 1 ? CASES_WITH[thing] : ~CASES_WITH[thing];
                }
            }
            return cases;
        }

        /** Whom one meets, the last one being last and also how many others there are. */
        static int meetsInRound(int last, int round, int one) {
            if (one == last) {
                return round;
            }
            if (one == round || last <= 0) {
                return last;
            }
            return Math.floorMod(2 * round - one, last);
        }

        /** The things in one order, cut into k rows (n - 1 places to cut at), less the order of the rows. */
        static int waysInRows(int n, int k) {
            if (n == 0 || k == 0) {
                return n == k ? 1 : 0;
            }
            int ways = 1;
            for (int i = 1; i < k; i++) {
                ways = ways * (n - i) / i;
            }
            for (int i = k + 1; i <= n; i++) {
                ways *= i;
            }
            return k > n ? 0 : ways;
        }

        private static int lettersOf(int digit) {
            if (digit <= 1) {
                return 0;
            }
            return digit == 7 || digit == 9 ? 4 : 3;
        }

        /** In how many ways the digits from one on are spelt. */
        static int spellings(Told digits, int from) {
            int ways = 1;
            for (int i = Math.max(from, 0); i < digits.count; i++) {
                ways *= Math.max(1, lettersOf(digits.get(i)));
            }
            return ways;
        }

        static int letterAt(Told digits, int i, int v) {
            int letters = lettersOf(digits.get(i));
            int behind = spellings(digits, i + 1);
            if (letters == 0 || behind <= 0) {
                return NONE;
            }
            return v / behind % letters;
        }

        /** The least place by which one wins at once; if none does, one that leaves the other nothing. */
        static int winningPlace(int n, int full) {
            if (hasThree(full)) {
                return NONE;
            }
            for (int place = 0; place < n; place++) {
                if (hasThree(full | 1 << place)) {
                    return place;
                }
            }
            for (int place = 0; place < n; place++) {
                if ((full >>> place & 1) == 0 && isSafe(full, place) && nimberLeft(n, full | 1 << place) == 0) {
                    return place;
                }
            }
            return NONE;
        }

        private static boolean hasThree(int full) {
            return (full & full >>> 1 & full >>> 2) != 0;
        }

        /** Beside a full place, or one off it, a filled one lets the other win at once. */
        private static boolean isSafe(int full, int place) {
            int near = full | full << 1 | full << 2 | full >>> 1 | full >>> 2;
            return (near >>> place & 1) == 0;
        }

        private static int nimberLeft(int n, int full) {
            int all = 0;
            int run = 0;
            for (int place = 0; place <= n; place++) {
                if (place < n && isSafe(full, place)) {
                    run++;
                } else {
                    all ^= run < NIMBERS.length ? NIMBERS[run] : 0;
                    run = 0;
                }
            }
            return all;
        }
    }
}
