/** Each promise with ordinary inputs, its edges and wrong inputs; what is due is worked out from the document by hand. */
public final class PromiseTest {
    static final int NONE = KnotLaundry.NONE;
    static final int LEAST = Integer.MIN_VALUE;
    static final int MOST = Integer.MAX_VALUE;
    static int wrong = 0;
    static int asked = 0;

    static void due(int promise, String call, long got, long want) {
        asked++;
        if (got != want) {
            wrong++;
            System.out.println("promise " + promise + ": " + call + " answered " + got + ", due is " + want);
        }
    }

    static void due(int promise, String call, boolean got, boolean want) { due(promise, call, got ? 1 : 0, want ? 1 : 0); }

    static void feed(KnotLaundry x, String s) {
        for (int from = 0; from < s.length(); from += 20) {
            int[] n = new int[5];
            for (int i = 0; i < 20; i++) n[i / 4] = n[i / 4] << 8 | (from + i < s.length() ? s.charAt(from + i) : ' ');
            x.feed(n[0], n[1], n[2], n[3], n[4]);
        }
        x.end(s.length());
    }

    static int say(KnotLaundry x, int k, String s) {
        feed(x, s);
        return x.text(k);
    }

    /** Persons 0 (mind 4), 1 (mind 0), 2 (mind 9); cloths 0 with 0, 1 with 1; things 0 of 0 due 2, 1 of 1 due 3, 2 of 2 due 3, 3 of 0 due 9. */
    static KnotLaundry house() {
        KnotLaundry x = new KnotLaundry();
        x.person(4);
        x.person(0);
        x.person(9);
        x.cloth(0);
        x.cloth(1);
        x.thing(0, 2);
        x.thing(1, 3);
        x.thing(2, 3);
        x.thing(0, 9);
        return x;
    }

    static void newObject() {
        KnotLaundry x = new KnotLaundry();
        for (int i = 0; i <= 13; i++) due(1, "look(" + i + ")", x.look(i), 0);
        due(1, "fault(0)", x.fault(0), 0);
        due(1, "fault(1)", x.fault(1), NONE);
        due(1, "boxes(0)", x.boxes(0), 1);
        due(1, "boxes(1)", x.boxes(1), 0);
        due(1, "braid(NONE)", x.braid(NONE), 0);
        due(1, "spelt(NONE, 0)", x.spelt(NONE, 0), 1);
        due(1, "pages(1, 0)", x.pages(1, 0), 0);
        due(1, "table(2, 1, 0)", x.table(2, 1, 0), NONE);
        due(1, "end(0)", x.end(0), true);
        due(1, "end(1)", x.end(1), false);
        due(1, "undo()", x.undo(), false);
        due(1, "image(false)", x.image(false), false);
        KnotLaundry y = new KnotLaundry();
        y.person(3);
        due(1, "another object's look(0)", x.look(0), 0);
    }

    static void state() {
        KnotLaundry x = new KnotLaundry();
        due(2, "state(5)", x.state(5), 0);
        due(2, "state(-7)", x.state(-7), 5);
        due(2, "state(LEAST)", x.state(LEAST), -7);
        due(2, "look(8)", x.look(8), LEAST);
        x.days(1);
        due(2, "look(8), nothing was drawn", x.look(8), LEAST);
        x.state(LEAST);
        due(2, "look(13), told again it forgets", x.look(13), 0);
    }

    static void person() {
        KnotLaundry x = new KnotLaundry();
        for (int wrong : new int[] {-1, 10, LEAST, MOST}) due(3, "person(" + wrong + ")", x.person(wrong), NONE);
        due(3, "look(0)", x.look(0), 0);
        for (int i = 0; i < 12; i++) due(3, "person", x.person(i % 10), i);
        due(3, "the 13th person", x.person(3), NONE);
        due(3, "look(0)", x.look(0), 12);
        due(3, "of(9, 0)", x.of(9, 0), 9);
        due(3, "of(10, 0)", x.of(10, 0), 0);
        due(3, "of(0, 1)", x.of(0, 1), 0);
        due(3, "of(0, 2)", x.of(0, 2), 0);
    }

    static void cloth() {
        KnotLaundry x = new KnotLaundry();
        due(4, "cloth(0) with nobody", x.cloth(0), NONE);
        x.person(1);
        x.person(1);
        for (int wrong : new int[] {-1, 2, LEAST, MOST}) due(4, "cloth(" + wrong + ")", x.cloth(wrong), NONE);
        for (int i = 0; i < 14; i++) due(4, "cloth", x.cloth(i % 2), i);
        due(4, "the 15th cloth", x.cloth(0), NONE);
        due(4, "clothOf(13, 0)", x.clothOf(13, 0), 1);
        due(4, "clothOf(13, 1)", x.clothOf(13, 1), 0);
        due(4, "clothOf(13, 2)", x.clothOf(13, 2), 0);
    }

    static void thing() {
        KnotLaundry x = new KnotLaundry();
        due(5, "thing(0, 0) of nobody", x.thing(0, 0), NONE);
        x.person(1);
        for (int wrong : new int[] {-1, 1, LEAST, MOST}) due(5, "thing(" + wrong + ", 0)", x.thing(wrong, 0), NONE);
        for (int wrong : new int[] {-1, 1000, LEAST, MOST}) due(5, "thing(0, " + wrong + ")", x.thing(0, wrong), NONE);
        for (int i = 0; i < 20; i++) due(5, "thing", x.thing(0, i == 0 ? 0 : 980 + i), i);
        due(5, "the 21st thing", x.thing(0, 0), NONE);
        due(5, "thingOf(19, 0)", x.thingOf(19, 0), 0);
        due(5, "thingOf(19, 1)", x.thingOf(19, 1), 999);
        due(5, "thingOf(19, 2)", x.thingOf(19, 2), NONE);
        due(5, "thingOf(19, 3)", x.thingOf(19, 3), 0);
        due(5, "thingOf(19, 4)", x.thingOf(19, 4), 0);
    }

    static void set() {
        KnotLaundry x = house();
        due(6, "set(0, 1, 9)", x.set(0, 1, 9), true);
        due(6, "of(1, 0)", x.of(1, 0), 9);
        due(6, "set(0, 1, 0)", x.set(0, 1, 0), true);
        for (int v : new int[] {-1, 10, LEAST, MOST}) due(6, "set(0, 1, " + v + ")", x.set(0, 1, v), false);
        due(6, "set(0, 3, 1)", x.set(0, 3, 1), false);
        due(6, "set(0, -1, 1)", x.set(0, -1, 1), false);
        due(6, "set(1, 1, 99)", x.set(1, 1, 99), true);
        due(6, "clothOf(1, 1)", x.clothOf(1, 1), 99);
        for (int v : new int[] {-1, 100, LEAST, MOST}) due(6, "set(1, 1, " + v + ")", x.set(1, 1, v), false);
        due(6, "set(1, 2, 0)", x.set(1, 2, 0), false);
        due(6, "set(1, -1, 0)", x.set(1, -1, 0), false);
        due(6, "set(2, 3, 999)", x.set(2, 3, 999), true);
        due(6, "thingOf(3, 1)", x.thingOf(3, 1), 999);
        for (int v : new int[] {-1, 1000, LEAST, MOST}) due(6, "set(2, 3, " + v + ")", x.set(2, 3, v), false);
        due(6, "set(2, 4, 0)", x.set(2, 4, 0), false);
        due(6, "set(2, -1, 0)", x.set(2, -1, 0), false);
        due(6, "set(3, 0, 1), in none", x.set(3, 0, 1), false);
        x.act(0, 0, 0);
        for (int v : new int[] {-1, 0, 10, LEAST, MOST}) due(6, "set(3, 0, " + v + ")", x.set(3, 0, v), false);
        due(6, "set(3, 0, 9)", x.set(3, 0, 9), true);
        due(6, "thingOf(0, 3)", x.thingOf(0, 3), 9);
        due(6, "set(3, 0, 1)", x.set(3, 0, 1), true);
        due(6, "set(3, 4, 1)", x.set(3, 4, 1), false);
        due(6, "set(3, -1, 1)", x.set(3, -1, 1), false);
        for (int what : new int[] {-1, 4, LEAST, MOST}) due(6, "set(" + what + ", 0, 1)", x.set(what, 0, 1), false);
        x.days(3);
        due(6, "thingOf(0, 4)", x.thingOf(0, 4), 1);
        due(6, "set(2, 0, 50), kept", x.set(2, 0, 50), false);
    }

    static void actTie() {
        KnotLaundry x = house();
        for (int i = 0; i < 4; i++) x.thing(1, 500);
        for (int wrong : new int[] {-1, 8, LEAST, MOST}) due(7, "act(0, " + wrong + ", 0)", x.act(0, wrong, 0), false);
        for (int wrong : new int[] {-1, 2, LEAST, MOST}) due(7, "act(0, 0, " + wrong + ")", x.act(0, 0, wrong), false);
        due(7, "act(0, 3, 0)", x.act(0, 3, 0), true);
        due(7, "ties: 1 and half of mind 4", x.thingOf(3, 3), 3);
        due(7, "act(0, 3, 1), in one", x.act(0, 3, 1), false);
        due(7, "act(0, 4, 0)", x.act(0, 4, 0), true);
        due(7, "act(0, 5, 0)", x.act(0, 5, 0), true);
        due(7, "act(0, 6, 0)", x.act(0, 6, 0), true);
        due(7, "act(0, 7, 0), the 5th knot", x.act(0, 7, 0), false);
        due(7, "clothOf(0, 2)", x.clothOf(0, 2), 4);
        for (int i = 0; i < 4; i++) due(7, "clothOf(0, 10 + " + i + ")", x.clothOf(0, 10 + i), 3 + i);
        due(7, "look(7)", x.look(7), 4);
        x.days(3);
        due(7, "act(0, 0, 1), forgotten", x.act(0, 0, 1), false);
    }

    static void actLendAndPull() {
        KnotLaundry x = house();
        due(7, "act(1, 1, 1), it is with him", x.act(1, 1, 1), false);
        due(7, "act(1, 1, 2)", x.act(1, 1, 2), true);
        due(7, "clothOf(1, 0)", x.clothOf(1, 0), 2);
        for (int wrong : new int[] {-1, 2, LEAST, MOST}) due(7, "act(1, " + wrong + ", 0)", x.act(1, wrong, 0), false);
        for (int wrong : new int[] {-1, 3, LEAST, MOST}) due(7, "act(1, 1, " + wrong + ")", x.act(1, 1, wrong), false);
        for (int what : new int[] {-1, 4, LEAST, MOST}) due(7, "act(" + what + ", 0, 1)", x.act(what, 0, 1), false);
        due(7, "act(3, 0, 0), no knots", x.act(3, 0, 0), false);
        for (int wrong : new int[] {-1, 2, LEAST, MOST}) {
            due(7, "act(2, " + wrong + ", 0)", x.act(2, wrong, 0), false);
            due(7, "act(3, " + wrong + ", 0)", x.act(3, wrong, 0), false);
        }
        x.act(0, 1, 0);
        x.act(0, 0, 0);
        due(7, "act(3, 0, MOST), v is not asked", x.act(3, 0, MOST), true);
        due(7, "the last knot: thingOf(0, 3)", x.thingOf(0, 3), 2);
        due(7, "thingOf(1, 3)", x.thingOf(1, 3), 3);
        due(7, "no line till it is at 0", x.look(7), 2);
        x.act(3, 0, 0);
        x.act(3, 0, 0);
        due(7, "untied: thingOf(0, 2)", x.thingOf(0, 2), NONE);
        due(7, "untied: thingOf(0, 3)", x.thingOf(0, 3), 0);
        due(7, "book(2, 1)", x.book(2, 1), 4);
        due(7, "book(2, 2)", x.book(2, 2), 0);
        due(7, "book(2, 3)", x.book(2, 3), 0);
        due(7, "act(0, 0, 1), tied again", x.act(0, 0, 1), true);
        due(7, "ties: 1 and half of mind 9", x.thingOf(0, 3), 5);
    }

    /** The first DRAW of 1000 out of STATE 0 is 563, the second is 577. */
    static void actWash() {
        KnotLaundry x = house();
        say(x, 0, "ties 5; slips 564 when knots = 2; slips 577;");
        x.act(0, 0, 0);
        x.act(0, 1, 0);
        due(7, "act(2, 0, -9)", x.act(2, 0, -9), true);
        due(7, "the first slips, knots as many as are there yet: the second not", x.clothOf(0, 10), 1);
        due(7, "clothOf(0, 2)", x.clothOf(0, 2), 1);
        due(7, "clothOf(0, 1)", x.clothOf(0, 1), 1);
        due(7, "look(8)", x.look(8), 1196435762);
        due(7, "book(2, 0)", x.book(2, 0), 0);
        due(7, "book(2, 1)", x.book(2, 1), 1);
        due(7, "book(2, 2)", x.book(2, 2), 0);
        due(7, "book(2, 3)", x.book(2, 3), 0);
        due(7, "look(7)", x.look(7), 3);
        say(x, 0, "slips worn - 100;");
        x.set(1, 0, 99);
        due(7, "act(2, 0, 0)", x.act(2, 0, 0), true);
        due(7, "worn 99 at most", x.clothOf(0, 1), 99);
        due(7, "slips 0 draws nothing", x.look(8), 1196435762);
        x.state(0);
        say(x, 0, "slips 564 when worn = 1; slips 0;");
        x.set(1, 0, 0);
        x.act(2, 0, 0);
        due(7, "worn one more ahead of it", x.clothOf(0, 2), 0);
        x.state(0);
        x.act(0, 0, 0);
        say(x, 0, "slips 563;");
        x.act(2, 0, 0);
        due(7, "a draw that is not below it", x.clothOf(0, 2), 1);
        due(7, "look(8)", x.look(8), 1013904223);
    }

    static void days() {
        KnotLaundry x = house();
        for (int wrong : new int[] {-1, 0, 61, LEAST, MOST}) due(8, "days(" + wrong + ")", x.days(wrong), NONE);
        due(8, "look(6)", x.look(6), 0);
        x.act(0, 0, 0);
        x.act(0, 3, 1);
        due(8, "days(10): one is with whom it is of, one with a stranger of mind 0", x.days(10), 1);
        due(8, "of(0, 1)", x.of(0, 1), 1);
        due(8, "of(0, 2)", x.of(0, 2), 1);
        due(8, "of(1, 2), in none", x.of(1, 2), 1);
        due(8, "look(8), tells 0 draws nothing", x.look(8), 0);
        due(8, "look(5)", x.look(5), 0);
        x.thing(0, 5);
        due(8, "days(60)", x.days(60), 0);
        due(8, "one that is past stays open", x.thingOf(4, 4), 0);
        for (int i = 0; i < 165; i++) x.days(60);
        due(8, "look(6)", x.look(6), 9970);
        due(8, "days(30), above 9999", x.days(30), NONE);
        due(8, "look(6)", x.look(6), 9970);
        due(8, "days(29)", x.days(29), 0);
        due(8, "look(6)", x.look(6), 9999);
        due(8, "days(1)", x.days(1), NONE);
        due(8, "look(6)", x.look(6), 9999);
    }

    static void dayInItsOrder() {
        KnotLaundry x = house();
        due(8, "MINDS", say(x, 2, "on 2 person 1 mind 8; on 2 person 1 mind 6;"), 2);
        due(8, "DEEDS", say(x, 1, "on 2 lend 0 1; on 2 tie 0 0; on 2 tie 0 1; on 2 pull 1; on 3 tie 1 0; on 3 tie 2 0;"
            + "on 3 lend 0 2; on 3 wash 0;"), 8);
        say(x, 0, "slips 564; tells 600 when mind = 6 and tight = 4 and open = 4 and knots = 1 and knows = 0; tells 0;");
        due(8, "days(2), nothing yet", x.days(2), 0);
        due(8, "look(7)", x.look(7), 0);
        x.days(1);
        due(8, "the mind told last holds", x.of(1, 0), 6);
        due(8, "lent, then tied by the new holder's mind", x.book(0, 3), 4);
        due(8, "told by a draw of 563 below 600", x.thingOf(0, 4), 1);
        due(8, "whom the cloth was with", x.book(1, 3), 1);
        due(8, "book(1, 0), ahead of the day's end", x.book(1, 0), 2);
        due(8, "a kept one is in none", x.clothOf(0, 2), 0);
        x.state(0);
        due(8, "days(1): slipped just ahead; the other is with whom it is of", x.days(1), 1);
        due(8, "thingOf(1, 4)", x.thingOf(1, 4), 2);
        due(8, "thingOf(2, 4)", x.thingOf(2, 4), 1);
        due(8, "slipped", x.book(4, 1), 1);
        due(8, "forgotten", x.book(5, 1), 3);
        due(8, "in none", x.book(5, 3), NONE);
        due(8, "kept", x.book(6, 1), 2);
        due(8, "with him", x.book(6, 3), 2);
        due(8, "look(7)", x.look(7), 7);
        due(8, "two draws", x.look(8), 1196435762);
        due(8, "tells 0 of thing 3 in none", x.days(6), 0);
        due(8, "of(0, 2)", x.of(0, 2), 1);
    }

    static void tape() {
        KnotLaundry x = new KnotLaundry();
        for (int i = 1; i <= 20; i++) due(9, "feed", x.feed(0x20202020, 0x20202020, 0x20202020, 0x20202020, 0x20202020), 20 * i);
        due(9, "feed, above 400", x.feed(1, 2, 3, 4, 5), NONE);
        due(10, "end(401)", x.end(401), false);
        due(10, "end(-1)", x.end(-1), false);
        due(10, "end(LEAST)", x.end(LEAST), false);
        due(10, "end(MOST)", x.end(MOST), false);
        due(10, "end(400)", x.end(400), true);
        due(10, "end(381)", x.end(381), true);
        due(9, "feed, 401", x.feed(1, 2, 3, 4, 5), NONE);
        due(10, "end(382)", x.end(382), false);
        due(10, "end(380)", x.end(380), true);
        due(9, "feed, 400", x.feed(1, 2, 3, 4, 5), 400);
        due(11, "text(0): the first byte that can't stand is a 0", x.text(0), NONE);
        due(12, "fault(1)", x.fault(1), 380);
        due(10, "end(1), empty", x.end(1), false);
        due(10, "end(0)", x.end(0), true);
        x.person(0);
        x.person(0);
        due(9, "the highest byte first", x.feed(0x70657273, 0x6f6e2030, 0x206b6e6f, 0x77732031, 0x3bFFFFFF), 20);
        due(10, "end(17)", x.end(17), true);
        due(11, "text(3)", x.text(3), 1);
        due(9, "feed", x.feed(0x20202020, 0x20202020, 0x20202020, 0x20202020, 0x20202020), 20);
        due(9, "behind the tape", x.feed(0x80FFFFFF, 0x20202020, 0x20202020, 0x20202020, 0x20202020), 40);
        due(11, "text(3)", x.text(3), NONE);
        due(12, "fault(1)", x.fault(1), 20);
    }

    static void fault(String s, int k, int fault, int place) {
        KnotLaundry x = house();
        say(x, k, k == 0 ? "ties 9;" : k == 1 ? "on 0 wash 0;" : k == 2 ? "on 0 person 0 mind 1;" : "person 0 knows 1;");
        x.days(1);
        due(11, "text(" + k + ") of " + s, say(x, k, s), NONE);
        due(12, "fault(0) of " + s, x.fault(0), fault);
        due(12, "fault(1) of " + s, x.fault(1), place);
        due(11, "the text stays", x.look(9 + k), 1);
        due(11, "the tape is empty", x.end(1), false);
        due(38, "a fault forgets nothing", x.look(13), 1);
    }

    static void faults() {
        fault("ties", 0, 1, 4);
        fault("ties  ", 0, 1, 6);
        fault("mind 1;", 0, 1, 0);
        fault("when 1;", 0, 1, 0);
        fault("1;", 0, 1, 0);
        fault(";", 0, 1, 0);
        for (char letter : "azAZ".toCharArray()) {
            fault("ties" + letter + " 1;", 0, 1, 0);
            fault(letter + "ties 1;", 0, 1, 0);
        }
        for (char strange : "@[`{_\r\0\u00e4\u00ff".toCharArray()) fault("ties" + strange + " 1;", 0, 1, 4);
        fault("ties 1:;", 0, 1, 6);
        fault("ties 1,;", 0, 1, 6);
        fault("ties tells;", 0, 1, 5);
        fault("ties tie;", 0, 1, 5);
        fault("ties when;", 0, 1, 5);
        fault("ties person;", 0, 1, 5);
        fault("ties on;", 0, 1, 5);
        fault("ties 1", 0, 1, 6);
        fault("ties 1; Ties 1;", 0, 1, 8);
        fault("ties 1; tie 1;", 0, 1, 8);
        fault("ties 12345;", 0, 1, 5);
        fault("ties mindtight;", 0, 1, 5);
        fault("ties (1);", 0, 1, 5);
        fault("ties -1;", 0, 1, 5);
        fault("ties 1 + ;", 0, 1, 9);
        fault("ties 1 / mind;", 0, 1, 9);
        fault("ties 1 / 0;", 0, 2, 9);
        fault("ties 1 / 0000;", 0, 2, 9);
        fault("ties 1 / 00000;", 0, 1, 9);
        fault("ties 1 when 1;", 0, 1, 13);
        fault("ties 1 when 1 < 2 < 3;", 0, 1, 18);
        fault("ties 1 when (1 < 2;", 0, 1, 18);
        fault("ties 1 when 1 < 2);", 0, 1, 17);
        fault("ties 1 when (1 + 2) < 3;", 0, 1, 18);
        fault("ties 1 when 1 < 2 and;", 0, 1, 21);
        fault("ties 1 when 1 < 2 or or 1 < 2;", 0, 1, 21);
        fault("ties 1\t;", 0, 1, 6);
        fault("ties 1 . ;", 0, 1, 7);
        fault("ties 1 when not not not not not not not not not 1 = 1;", 0, 3, 44);
        fault("ties 1 when ((((((((( 1 = 1 )))))))));", 0, 3, 20);
        fault("ties 1 when not ( not ( not ( not ( not 1 = 1 ))));", 0, 3, 36);
        fault("ties 1 when not ( not ( not ( not ( 1 / 0 = 1 ))));", 0, 2, 40);
        fault("ties1;".repeat(16) + "ties ", 0, 3, 96);
        fault("ties1;".repeat(16) + "when ", 0, 1, 96);
        fault("on 1000 tie 9 9;", 1, 2, 3);
        fault("on x", 1, 1, 3);
        fault("on 0 tied 0 0;", 1, 1, 5);
        fault("on 0 ties 0 0;", 1, 1, 5);
        fault("on 0 day 0 0;", 1, 1, 5);
        fault("on 0 when 0;", 1, 1, 5);
        fault("on 0 person 0 mind 1;", 1, 1, 5);
        fault("wash 0;", 1, 1, 0);
        fault("person 0 knows 1;", 1, 1, 0);
        fault("on 0 tie 4 0;", 1, 2, 9);
        fault("on 0 tie 3 2;", 1, 2, 11);
        fault("on 0 tie 3;", 1, 1, 10);
        fault("on 0 lend 2 0;", 1, 2, 10);
        fault("on 0 lend 0 3;", 1, 2, 12);
        fault("on 0 wash 2;", 1, 2, 10);
        fault("on 0 wash 0 1;", 1, 1, 12);
        fault("on 0 pull 2;", 1, 2, 10);
        fault("on 0 pull 0", 1, 1, 11);
        fault("on 0 wash 0;".repeat(16) + "on", 1, 3, 192);
        fault("on 1000 person 0 mind 1;", 2, 2, 3);
        fault("on 0 person 3 mind 1;", 2, 2, 12);
        fault("on 0 person 2 mind 10;", 2, 2, 19);
        fault("on 0 person 2 knows 1;", 2, 1, 14);
        fault("on 0 wash 0;", 2, 1, 5);
        fault("on0person0mind1;".repeat(16) + "on", 2, 3, 256);
        fault("person 3 knows 0;", 3, 2, 7);
        fault("person 0 knows 3;", 3, 2, 15);
        fault("person 0 knows 0;", 3, 2, 15);
        fault("person 0 knows 0000;", 3, 2, 15);
        fault("person 0 knows 00000;", 3, 1, 15);
        fault("person 0 mind 1;", 3, 1, 9);
        fault("on 0 person 0 knows 1;", 3, 1, 0);
        fault("person 0 person 1;", 3, 1, 9);
        fault("person0knows1;".repeat(16) + "person 9", 3, 3, 224);
    }

    static void texts() {
        KnotLaundry x = house();
        for (int k : new int[] {-1, 4, LEAST, MOST}) {
            feed(x, "?");
            x.text(0);
            due(12, "fault(0)", x.fault(0), 1);
            feed(x, "ties 1;");
            due(11, "text(" + k + ")", x.text(k), NONE);
            due(12, "fault(0), no such text", x.fault(0), 0);
            due(12, "fault(1), no such text", x.fault(1), NONE);
            due(11, "the tape is empty then", x.end(1), false);
        }
        due(11, "16 lines", say(x, 0, "tells 1;".repeat(16)), 16);
        due(11, "look(9)", x.look(9), 16);
        due(12, "fault(0)", x.fault(0), 0);
        due(12, "fault(1)", x.fault(1), NONE);
        for (int what : new int[] {-1, 2, LEAST, MOST}) due(12, "fault(" + what + ")", x.fault(what), NONE);
        due(11, "blanks alone", say(x, 0, " \n "), 0);
        due(11, "look(9)", x.look(9), 0);
        due(11, "8 that are open", say(x, 0, "ties 1 when (((( not not not not 1 = 1 )))) and not (not 1 = 1);"), 1);
        due(11, "told twice it is one, yet two lines", say(x, 3, "person 0 knows 1; person 1 knows 0; person0knows0002;"), 3);
        due(13, "of(0, 6)", x.of(0, 6), 6);
        due(13, "of(1, 6)", x.of(1, 6), 1);
        due(13, "of(2, 6)", x.of(2, 6), 1);
        due(11, "none", x.text(3), 0);
        due(13, "of(0, 6)", x.of(0, 6), 0);
        due(11, "day 999", say(x, 1, "on 999 pull 1;on 0 lend 1 1;"), 2);
        due(11, "look(10)", x.look(10), 2);
        due(11, "mind 9", say(x, 2, "\non\n999 person 2 mind 9\n;"), 1);
        due(11, "look(11)", x.look(11), 1);
    }

    /** What the law tells, by a line that is asked for ties of thing 0 and cloth 1. */
    static void law(String line, int want) {
        KnotLaundry x = house();
        x.act(0, 1, 1);
        x.act(2, 0, 0);
        x.set(1, 1, 7);
        say(x, 3, "person 1 knows 0;");
        x.days(3);
        due(11, "text(0) of " + line, say(x, 0, line), 1);
        due(15, "thingOf(3, 21) by " + line, x.thingOf(3, 21), want);
    }

    /** There cloth 1 is with person 1 (mind 0), worn 7, has one knot; thing 3 of 0 is in none; things 1, 2, 3 are open; day 3. */
    static void laws() {
        law("ties mind;", 1);
        law("ties mind + 1;", 1);
        law("ties mind + 2;", 2);
        law("ties tight + 2;", 2);
        law("ties worn;", 7);
        law("ties knots + 1;", 2);
        law("ties knows + 1;", 2);
        law("ties kept + 2;", 2);
        law("ties forgot + 3;", 4);
        law("ties open;", 3);
        law("ties day;", 3);
        law("ties 10;", 9);
        law("ties 0;", 1);
        law("ties 2 + 3 * 2;", 8);
        law("ties 9 - 3 - 2;", 4);
        law("ties 2 * 9 / 4;", 4);
        law("ties 9 / 4 * 2;", 4);
        law("ties 9 - 9 - 7 / 2 + 5;", 2);
        law("ties 0 - 7 * 1 / 2 + 5;", 2);
        law("ties 3 * day - 16 / 3;", 4);
        law("ties 3 when 1 = 2;", 1);
        law("ties 3 when 1 < 2;", 3);
        law("ties 3 when 2 < 2;", 1);
        law("ties 3 when 2 > 1;", 3);
        law("ties 3 when 2 > 2;", 1);
        law("ties 3 when 2 = 2;", 3);
        law("ties 3 when not 2 = 2;", 1);
        law("ties 3 when not not 2 = 2;", 3);
        law("ties 3 when 1 = 1 or 1 = 2 and 1 = 2;", 3);
        law("ties 3 when (1 = 1 or 1 = 2) and 1 = 2;", 1);
        law("ties 3 when 1 = 2 and 1 = 1 or 1 = 1;", 3);
        law("ties 3 when not 1 = 1 or 1 = 1;", 3);
        law("ties 3 when not 1 = 1 and 1 = 2;", 1);
        law("ties 3 when not (1 = 1 or 1 = 1);", 1);
        law("ties 3 when 1 = 2 or 1 = 2 or 1 = 1 and 2 = 2 and 3 = 3;", 3);
        law("ties 3 when 9999 * 9999 * 21 < 0;", 1);
        law("ties 3 when 9999 * 9999 * 22 < 0;", 3);
        law("slips 3;", 1);
        KnotLaundry x = house();
        x.act(0, 3, 1);
        say(x, 0, "slips 5 when tight = 2; slips 6 when tight = 1; slips 7;");
        due(15, "the first line that is so", x.thingOf(3, 5), 6);
        x.set(3, 3, 2);
        due(15, "thingOf(3, 5)", x.thingOf(3, 5), 5);
        x.set(3, 3, 3);
        due(15, "thingOf(3, 5)", x.thingOf(3, 5), 7);
        say(x, 0, "slips 0 - 1; tells 1001;");
        due(15, "slips held to 0", x.thingOf(3, 5), 0);
        due(15, "tells held to 1000", x.thingOf(3, 6), 1000);
        x.text(0);
        due(15, "slips: 900 less 100 times 3", x.thingOf(3, 5), 600);
        due(15, "tells: he knows him not, mind 0", x.thingOf(3, 6), 0);
        x.act(1, 1, 0);
        due(15, "tells: with whom it is of, mind 4", x.thingOf(3, 6), 800);
        x.set(0, 0, 9);
        due(15, "tells: 1050 held to 1000", x.thingOf(3, 6), 1000);
    }

    static void of() {
        KnotLaundry x = house();
        due(13, "of(0, 0)", x.of(0, 0), 4);
        due(13, "of(0, 3)", x.of(0, 3), 2);
        due(13, "of(0, 4)", x.of(0, 4), 2);
        due(13, "of(0, 5)", x.of(0, 5), 1);
        x.act(1, 1, 0);
        due(13, "of(0, 5)", x.of(0, 5), 3);
        due(13, "of(1, 5)", x.of(1, 5), 0);
        x.thing(0, 5);
        x.act(0, 0, 0);
        x.days(1);
        x.set(2, 0, 0);
        due(13, "of(0, 3), past ones too", x.of(0, 3), 3);
        due(13, "of(0, 4), past ones not", x.of(0, 4), 5);
        x.set(2, 0, 1);
        due(13, "of(0, 4), this day", x.of(0, 4), 1);
        x.days(1);
        due(13, "of(0, 1)", x.of(0, 1), 1);
        x.days(20);
        due(13, "of(0, 2)", x.of(0, 2), 2);
        due(13, "of(0, 3)", x.of(0, 3), 0);
        due(13, "of(0, 4)", x.of(0, 4), NONE);
        for (int wrong : new int[] {-1, 3, LEAST, MOST}) due(13, "of(" + wrong + ", 0)", x.of(wrong, 0), NONE);
        for (int what : new int[] {-1, 7, LEAST, MOST}) due(13, "of(0, " + what + ")", x.of(0, what), NONE);
    }

    static void clothOfAndThingOf() {
        KnotLaundry x = house();
        for (int wrong : new int[] {-1, 2, LEAST, MOST}) due(14, "clothOf(" + wrong + ", 0)", x.clothOf(wrong, 0), NONE - 1);
        for (int what : new int[] {-1, 3, 9, 14, LEAST, MOST}) due(14, "clothOf(0, " + what + ")", x.clothOf(0, what), NONE - 1);
        x.act(0, 3, 1);
        due(14, "clothOf(1, 10)", x.clothOf(1, 10), 3);
        for (int i = 11; i <= 13; i++) due(14, "clothOf(1, " + i + ")", x.clothOf(1, i), NONE);
        for (int wrong : new int[] {-1, 4, LEAST, MOST}) due(15, "thingOf(" + wrong + ", 0)", x.thingOf(wrong, 0), NONE - 1);
        for (int what : new int[] {-1, 7, 19, 22, LEAST, MOST}) due(15, "thingOf(0, " + what + ")", x.thingOf(0, what), NONE - 1);
        due(15, "thingOf(3, 2)", x.thingOf(3, 2), 1);
        due(15, "thingOf(0, 5), in none", x.thingOf(0, 5), NONE);
        due(15, "thingOf(0, 6), in none", x.thingOf(0, 6), NONE);
        for (int i = 0; i < 3; i++) x.act(0, i, 1);
        say(x, 0, "ties knots + tight;");
        due(15, "into a full one, as they are", x.thingOf(3, 21), 5);
        x.set(3, 3, 4);
        due(15, "tight as it is", x.thingOf(3, 21), 8);
        due(15, "into another, as they are", x.thingOf(3, 20), 4);
    }

    static void book() {
        KnotLaundry x = house();
        due(16, "book(0, 0)", x.book(0, 0), NONE - 1);
        x.days(1);
        x.act(0, 1, 0);
        due(16, "book(0, 0)", x.book(0, 0), 1);
        due(16, "book(0, 1)", x.book(0, 1), 0);
        due(16, "book(0, 2)", x.book(0, 2), 1);
        due(16, "book(0, 3)", x.book(0, 3), 3);
        for (int wrong : new int[] {-1, 1, 150, LEAST, MOST}) due(16, "book(" + wrong + ", 0)", x.book(wrong, 0), NONE - 1);
        for (int what : new int[] {-1, 4, LEAST, MOST}) due(16, "book(0, " + what + ")", x.book(0, what), NONE - 1);
        x.set(0, 1, 0);
        for (int i = 1; i < 150; i += 2) {
            x.act(0, 3, 1);
            x.act(3, 1, 0);
        }
        due(16, "150 lines", x.look(7), 150);
        due(16, "book(149, 1)", x.book(149, 1), 0);
        due(16, "no more then", x.thingOf(3, 2), NONE);
        x.act(0, 3, 1);
        due(16, "no more then", x.look(7), 150);
        due(16, "book(150, 0)", x.book(150, 0), NONE - 1);
        x.undo();
        due(16, "undone, with none of its own", x.look(7), 150);
    }

    static void goesAndFate() {
        KnotLaundry x = house();
        for (int wrong : new int[] {-1, 0, 61, LEAST, MOST}) due(17, "goes(" + wrong + ", 0)", x.goes(wrong, 0), NONE);
        for (int what : new int[] {-1, 4, LEAST, MOST}) due(17, "goes(1, " + what + ")", x.goes(1, what), NONE);
        for (int wrong : new int[] {-1, 4, LEAST, MOST}) due(18, "fate(" + wrong + ")", x.fate(wrong), NONE);
        x.state(77);
        x.act(0, 0, 1);
        x.act(0, 3, 1);
        say(x, 0, "slips 499 when day = 0; slips 500 when tight = 1; slips 499; tells 500 when day = 2; tells 499;");
        say(x, 1, "on 0 wash 1; on 1 tie 1 0;");
        due(17, "goes(1, 2): 499 slips not", x.goes(1, 2), 2);
        due(17, "goes(2, 2)", x.goes(2, 2), 3);
        due(17, "goes(2, 3)", x.goes(2, 3), 5);
        due(17, "goes(3, 0): 500 tells", x.goes(3, 0), 1);
        due(17, "goes(3, 2)", x.goes(3, 2), 2);
        due(17, "goes(4, 1): 499 tells not", x.goes(4, 1), 2);
        due(17, "goes(60, 1)", x.goes(60, 1), 3);
        due(18, "fate(0)", x.fate(0), 1);
        due(18, "fate(1)", x.fate(1), 2);
        say(x, 1, "on 0 wash 1; on 1 wash 1;");
        due(17, "goes(2, 2): 500 slips", x.goes(2, 2), 0);
        due(17, "nothing of it stays: DAY", x.look(6), 0);
        due(17, "no draws", x.look(8), 77);
        due(17, "no lines", x.look(7), 2);
        due(17, "worn", x.clothOf(1, 1), 0);
        due(17, "nothing to undo", x.look(13), 0);
        x.thing(0, 60);
        x.thing(0, 59);
        due(18, "fate of one that is due 60 days on", x.fate(4), 0);
        due(18, "fate of one that is due 59 days on", x.fate(5), 2);
        for (int i = 0; i < 166; i++) x.days(60);
        x.days(9);
        due(17, "goes(30, 1), to 9999", x.goes(30, 1), 6);
        due(17, "goes(31, 1), above 9999", x.goes(31, 1), 6);
        due(18, "fate past 9999", x.fate(0), x.thingOf(0, 4));
        goesPastTheLastDay(x);
    }

    /** Only for days() is a DAY above 9999 a ground to refuse. */
    static void goesPastTheLastDay(KnotLaundry x) {
        due(17, "days(30)", x.days(30), 0);
        due(17, "look(6)", x.look(6), 9999);
        int late = x.thing(1, 5);
        due(17, "one that is past is tied", x.act(0, late, 0) ? 1 : 0, 1);
        for (int n : new int[] {1, 2, 59, 60}) {
            due(17, "goes(" + n + ", 0) on the last day", x.goes(n, 0), x.of(0, 1) + x.of(1, 1));
            due(17, "goes(" + n + ", 1) on the last day", x.goes(n, 1), 6);
            due(17, "goes(" + n + ", 2) on the last day", x.goes(n, 2), 1);
            due(17, "goes(" + n + ", 3) on the last day", x.goes(n, 3), x.thingOf(late, 3));
        }
        for (int n : new int[] {-1, 0, 61, LEAST, MOST}) due(17, "goes(" + n + ", 0) on the last day", x.goes(n, 0), NONE);
        for (int what : new int[] {-1, 4, LEAST, MOST}) due(17, "goes(60, " + what + ") on the last day", x.goes(60, what), NONE);
        due(17, "nothing of it stays: DAY", x.look(6), 9999);
        due(17, "nothing of it stays: what can be undone", x.look(13), 1);
        due(8, "days(1) on the last day", x.days(1), NONE);
        due(18, "fate on the last day", x.fate(late), 0);
    }

    static void fewThoughts() {
        KnotLaundry x = new KnotLaundry();
        due(19, "crossing(4)", x.crossing(4), 1);
        due(19, "crossing(-4)", x.crossing(-4), 2);
        due(20, "braid(NONE)", x.braid(NONE), 0);
        due(19, "crossing(5)", x.crossing(5), NONE);
        due(19, "crossing(0)", x.crossing(0), 0);
        for (int i = 1; i <= 12; i++) due(19, "crossing", x.crossing(i % 2 == 0 ? 1 : 2), i);
        due(19, "the 13th crossing", x.crossing(1), NONE);
        due(20, "braid(NONE)", x.braid(NONE), 12);
        due(20, "braid(0), round four times", x.braid(0), 0);
        due(19, "crossing(0), full", x.crossing(0), 0);
        due(21, "turnings(16543210, 0)", x.turnings(16543210, 0), 1);
        due(21, "turnings(16543210, 1)", x.turnings(16543210, 1), 0);
        due(22, "strip(64 * 6, 63, 2)", x.strip(384, 63, 2), 0);
        due(23, "answer(0)", x.answer(0), 1);
        due(24, "boxes(0)", x.boxes(0), 1);
        due(24, "boxes(1)", x.boxes(1), 1);
        due(25, "piles(26, 1000)", x.piles(26, 1000), 0);
        due(26, "dealt(0)", x.dealt(0), 1000);
        due(27, "key(99)", x.key(99), 1);
        due(27, "key(99), told again", x.key(99), 2);
        due(28, "table(16, 99, 0)", x.table(16, 99, 0), 3);
        due(28, "table(16, 3, 1)", x.table(16, 3, 1), 2);
        due(29, "ask(9)", x.ask(9), 1);
        due(30, "pages(5, 1)", x.pages(5, 1), 1);
        due(31, "truth(27030, 0), no two side by side", x.truth(27030, 0), 8);
        due(32, "rounds(13, 12, 0)", x.rounds(13, 12, 0), 11);
        due(33, "meets(13, 0, 11)", x.meets(13, 0, 11), 12);
        due(34, "rows(10, 3)", x.rows(10, 3), 21772800);
        due(35, "digit(2)", x.digit(2), 1);
        due(35, "digit(0)", x.digit(0), 2);
        due(35, "digit(9)", x.digit(9), 3);
        due(36, "spelt(0, 4), the first digit first", x.spelt(0, 4), 1);
        due(36, "spelt(2, 3)", x.spelt(2, 3), 3);
        due(36, "spelt(1, 3)", x.spelt(1, 3), NONE);
        due(37, "game(3, 0)", x.game(3, 0), 0);
        due(37, "game(3, 7)", x.game(3, 7), NONE);
        due(37, "game(6, 33)", x.game(6, 33), NONE);
        due(37, "game(16, 5)", x.game(16, 5), 1);
    }

    static void undo() {
        KnotLaundry x = house();
        for (int i = 0; i < 8; i++) x.act(1, 0, i % 2 == 0 ? 1 : 0);
        due(38, "6 are kept", x.look(13), 6);
        for (int i = 0; i < 6; i++) due(38, "undo()", x.undo(), true);
        due(38, "undo()", x.undo(), false);
        due(38, "clothOf(0, 0), behind the second", x.clothOf(0, 0), 0);
        x = house();
        say(x, 2, "on 0 person 0 mind 7;");
        x.act(0, 0, 1);
        x.act(2, 1, 0);
        due(38, "slipped by 563 below 800", x.look(5), 0);
        x.days(3);
        due(38, "of(0, 2)", x.of(0, 2), 1);
        due(38, "look(13)", x.look(13), 5);
        x.undo();
        due(38, "of(0, 2)", x.of(0, 2), 0);
        due(38, "thingOf(0, 4)", x.thingOf(0, 4), 0);
        due(38, "look(6)", x.look(6), 2);
        due(38, "look(7)", x.look(7), 2);
        x.undo();
        x.undo();
        due(38, "of(0, 0)", x.of(0, 0), 4);
        x.undo();
        due(38, "STATE goes back", x.look(8), 0);
        due(38, "THE BOOK goes back", x.look(7), 1);
        due(38, "clothOf(1, 1)", x.clothOf(1, 1), 0);
        due(38, "thingOf(0, 3)", x.thingOf(0, 3), 1);
        x.undo();
        due(38, "thingOf(0, 2)", x.thingOf(0, 2), NONE);
        due(38, "look(7)", x.look(7), 0);
        due(38, "undo()", x.undo(), false);
        x.act(0, 0, 1);
        x.act(3, 1, 0);
        x.undo();
        due(38, "pulling goes back", x.thingOf(0, 3), 1);
    }

    static void whatForgets() {
        KnotLaundry x = house();
        x.act(0, 0, 0);
        feed(x, "?");
        x.text(1);
        x.text(9);
        x.person(10);
        x.cloth(9);
        x.thing(9, 9);
        x.set(0, 0, 10);
        x.act(0, 0, 0);
        x.days(0);
        say(x, 0, "ties 2;");
        say(x, 3, "person 0 knows 1;");
        x.crossing(1);
        x.answer(1);
        x.key(1);
        x.ask(1);
        x.digit(2);
        x.image(true);
        x.goes(5, 0);
        x.fate(0);
        due(38, "these forget nothing", x.look(13), 1);
        due(38, "undo()", x.undo(), true);
        due(38, "THE LAW stays", x.look(9), 1);
        due(38, "FRIENDS stay", x.look(12), 1);
        due(38, "BRAID stays", x.braid(NONE), 1);
        for (int i = 0; i < 8; i++) {
            x = house();
            x.image(true);
            x.days(1);
            due(38, "look(13)", x.look(13), 1);
            if (i == 0) x.state(0);
            if (i == 1) x.person(1);
            if (i == 2) x.cloth(1);
            if (i == 3) x.thing(1, 1);
            if (i == 4) x.set(0, 0, 4);
            if (i == 5) x.text(1);
            if (i == 6) x.text(2);
            if (i == 7) x.image(false);
            due(38, "forgotten by " + i, x.look(13), 0);
            due(38, "undo()", x.undo(), false);
        }
    }

    static void image() {
        KnotLaundry x = house();
        due(39, "image(false), none", x.image(false), false);
        x.state(5);
        x.act(0, 0, 1);
        say(x, 0, "ties 2;");
        say(x, 1, "on 1 wash 1;");
        say(x, 2, "on 1 person 0 mind 1;");
        say(x, 3, "person 0 knows 1;");
        x.crossing(1);
        x.answer(1);
        x.key(1);
        x.ask(1);
        x.digit(7);
        x.act(1, 0, 1);
        due(39, "image(true)", x.image(true), true);
        due(39, "look(13)", x.look(13), 1);
        for (int again = 0; again < 2; again++) {
            x.undo();
            x.undo();
            x.act(0, 1, 0);
            x.days(5);
            x.person(1);
            x.cloth(0);
            x.thing(0, 20);
            for (int k = 0; k < 4; k++) x.text(k);
            x.crossing(0);
            x.answer(NONE);
            x.key(NONE);
            x.ask(NONE);
            x.digit(NONE);
            feed(x, "ties 1");
            x.text(0);
            feed(x, "ties");
            due(39, "image(false)", x.image(false), true);
            due(39, "the TAPE is as it is", x.end(4), true);
            due(39, "fault() is as it is", x.fault(1), 6);
            x.end(0);
            due(39, "nothing to undo", x.look(13), 0);
            int[] want = {3, 2, 4, 15, 0, 1, 0, 1, 5, 1, 1, 1, 1};
            for (int i = 0; i < want.length; i++) due(39, "look(" + i + ")", x.look(i), want[i]);
            due(39, "book(0, 2)", x.book(0, 2), 0);
            due(39, "book(0, 3)", x.book(0, 3), 1);
            due(39, "clothOf(0, 0)", x.clothOf(0, 0), 1);
            due(39, "thingOf(0, 2)", x.thingOf(0, 2), 1);
            due(39, "thingOf(1, 20)", x.thingOf(1, 20), 2);
            due(39, "of(0, 6)", x.of(0, 6), 2);
            due(39, "braid(0)", x.braid(0), 1);
            due(39, "boxes(0)", x.boxes(0), 2);
            due(39, "table(2, 1, 0)", x.table(2, 1, 0), 1);
            due(39, "pages(1, 0)", x.pages(1, 0), 1);
            due(39, "spelt(NONE, 0)", x.spelt(NONE, 0), 4);
        }
        x.person(1);
        x.image(true);
        x.person(1);
        x.image(false);
        due(39, "the one taken last", x.look(0), 4);
    }

    static void look() {
        KnotLaundry x = house();
        for (int what : new int[] {-1, 14, LEAST, MOST}) due(40, "look(" + what + ")", x.look(what), -100000);
        x.act(0, 0, 0);
        x.act(0, 3, 0);
        x.days(4);
        due(40, "look(0)", x.look(0), 3);
        due(40, "look(1)", x.look(1), 2);
        due(40, "look(2)", x.look(2), 4);
        due(40, "look(3)", x.look(3), 8);
        due(40, "look(4)", x.look(4), 1);
        due(40, "look(5)", x.look(5), 1);
        due(40, "look(6)", x.look(6), 4);
        due(40, "look(7)", x.look(7), 5);
        due(40, "look(13)", x.look(13), 6);
    }

    public static void main(String[] args) {
        newObject();
        state();
        person();
        cloth();
        thing();
        set();
        actTie();
        actLendAndPull();
        actWash();
        days();
        dayInItsOrder();
        tape();
        faults();
        texts();
        laws();
        of();
        clothOfAndThingOf();
        book();
        goesAndFate();
        fewThoughts();
        undo();
        whatForgets();
        image();
        look();
        System.out.println("PromiseTest: " + asked + " answers" + (wrong == 0 ? ": all as due" : ": " + wrong + " wrong"));
        if (wrong != 0) System.exit(1);
    }
}
