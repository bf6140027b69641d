/** The boundary cases of promises 9 to 12: the tape, the texts and their faults; and of promise 15, what the law tells. */
public final class EdgeTextTest extends Edge {
    public static void main(String[] args) {
        run(EdgeTextTest.class, 9, 10, 11, 12, 15);
    }

    private static final int LAW = 0;
    private static final int DEEDS = 1;
    private static final int MINDS = 2;
    private static final int FRIENDS = 3;

    /** A line of each text that can stand in a house. */
    private static final String[] LINES = {"slips 7;", "on 0 wash 0;", "on 0 person 1 mind 5;", "person 0 knows 1;"};

    /** Thing 0 of person 0 (mind 4) in cloth 1, which is with person 1 (mind 0). */
    static KnotLaundry lentAway() {
        KnotLaundry x = house();
        x.act(0, 0, 1);
        return x;
    }

    /** What a law tells of thing 0 in cloth 1: 5 slips, 6 tells, 20 + c ties. */
    static int told(String law, int what) {
        KnotLaundry x = lentAway();
        say(x, LAW, law);
        return x.thingOf(0, what);
    }

    /** Whether a condition is so for thing 0 in cloth 1. */
    static void so(String condition, boolean want) {
        int got = told("slips 1 when " + condition + "; slips 0;", 5);
        due("whether " + condition, got, want ? 1 : 0);
    }

    /** Twenty bytes that are all the same. */
    static int feedAll(KnotLaundry x, int b) {
        int n = b << 24 | b << 16 | b << 8 | b;
        return x.feed(n, n, n, n, n);
    }

    // ---- promise 9: feed

    static void p09HighestFirst() {
        says(9, "Twenty bytes come behind the TAPE, of each number the highest first: how many it has.");
        KnotLaundry x = lentAway();
        // "slip", "s 12", "34; ", blanks.
        due("feed()", x.feed(0x736c6970, 0x73203132, 0x33343b20, 0x20202020, 0x20202020), 20);
        due("text(0)", x.text(LAW), 1);
        due("thingOf(0, 5), held to 1000", x.thingOf(0, 5), 1000);
        due("feed()", x.feed(0x736c6970, 0x73200a31, 0x32202f20, 0x34202020, 0x2020203b), 20);
        due("text(0)", x.text(LAW), 1);
        due("thingOf(0, 5), the last byte the ;", x.thingOf(0, 5), 3);
        due("feed(), blanks", feedAll(x, 32), 20);
        due("feed(), below 0", x.feed(0x202020ff, 0, -1, LEAST, MOST), 40);
        due("text(0)", x.text(LAW), NONE);
        due("fault(1), the 24th byte", x.fault(1), 23);
    }

    static void p09FourHundredBytes() {
        says(9, "NONE, and nothing comes, if there would be more than 400.");
        KnotLaundry x = house();
        for (int i = 1; i <= 19; i++) due("feed(), " + i, feedAll(x, 32), 20 * i);
        due("feed(), the twentieth", feedAll(x, 32), 400);
        String was = all(x);
        due("feed(), the twenty-first", feedAll(x, 'z'), NONE);
        same("feed(), the twenty-first", was, x);
        due("end(401)", x.end(401), false);
        due("end(381)", x.end(381), true);
        due("feed(), it would be 401", feedAll(x, 'z'), NONE);
        due("end(382), nothing came", x.end(382), false);
        due("end(380)", x.end(380), true);
        due("feed(), it is 400", feedAll(x, 32), 400);
        due("text(0), blanks alone", x.text(LAW), 0);
        due("feed(), empty again", feedAll(x, 32), 20);
    }

    static void p09AllFourHundredCount() {
        says(9, "Twenty bytes come behind the TAPE");
        KnotLaundry x = lentAway();
        String law = "slips " + times(196, "1+") + "1;";
        due("the law's length", law.length(), 400);
        due("text(0)", say(x, LAW, law), 1);
        due("thingOf(0, 5)", x.thingOf(0, 5), 197);
        String late = times(399, " ") + "z";
        due("text(0), the last byte is wrong", say(x, LAW, late), NONE);
        due("fault(1)", x.fault(1), 399);
        String signs = "slips 5 when " + times(193, "1") + ";";
        due("text(0), too long a number", say(x, LAW, signs), NONE);
        due("fault(1)", x.fault(1), 13);
        due("thingOf(0, 5)", x.thingOf(0, 5), 197);
    }

    static void p09FeedForgetsNothing() {
        says(9, "(feed(), end(), what is refused, a text with a FAULT, the taking of THE IMAGE do not)");
        KnotLaundry x = house();
        x.act(2, 0, 0);
        feedAll(x, 32);
        x.end(0);
        due("look(13)", x.look(13), 1);
    }

    // ---- promise 10: end

    static void p10TheFirstBytesAlone() {
        says(10, "The TAPE has its first n bytes alone");
        KnotLaundry x = lentAway();
        feed(x, "slips 7; slips 8; z zz zzz");
        due("end(17)", x.end(17), true);
        due("end(18)", x.end(18), false);
        due("end(8)", x.end(8), true);
        due("feed(), behind these", feedAll(x, 32), 28);
        due("text(0)", x.text(LAW), 1);
        due("thingOf(0, 5)", x.thingOf(0, 5), 7);
        feed(x, "slips 7; slips 8;");
        due("end(7), without the ;", x.end(7), true);
        due("text(0)", x.text(LAW), NONE);
        due("fault(1), its end", x.fault(1), 7);
        // Cut within a number, within a word: what was behind is not read.
        feed(x, "slips 12;");
        due("end(7)", x.end(7), true);
        due("text(0)", x.text(LAW), NONE);
        due("fault(1)", x.fault(1), 7);
        feed(x, "slips mind;");
        due("end(9)", x.end(9), true);
        due("text(0)", x.text(LAW), NONE);
        due("fault(1), no keyword any more", x.fault(1), 6);
    }

    static void p10NotSoMany() {
        says(10, "true; false, changing nothing, if it has not so many, or n is below 0.");
        KnotLaundry x = house();
        due("end(0) of an empty tape", x.end(0), true);
        due("end(1) of an empty tape", x.end(1), false);
        feedAll(x, 32);
        String was = all(x);
        for (int n : new int[] {21, -1, 400, LEAST, MOST}) due("end(" + n + ")", x.end(n), false);
        same("five refused", was, x);
        due("feed(), as long as it was", feedAll(x, 32), 40);
        due("end(40), all that it has", x.end(40), true);
        due("feed()", feedAll(x, 32), 60);
        due("end(0)", x.end(0), true);
        due("end(1), it is empty", x.end(1), false);
        due("feed()", feedAll(x, 32), 20);
    }

    // ---- promise 11: text

    static void p11EmptyThenWhateverK() {
        says(11, "The TAPE, empty then (whatever k, with a FAULT too), is TEXT k: how many lines.");
        KnotLaundry x = house();
        for (int k = 0; k <= 3; k++) {
            due("text(" + k + ")", say(x, k, LINES[k] + " " + LINES[k]), 2);
            due("end(1), empty behind it", x.end(1), false);
            due("look(" + (9 + k) + ")", x.look(9 + k), 2);
        }
        for (int k : new int[] {-1, 4, LEAST, MOST}) {
            due("text(" + k + ")", say(x, k, LINES[0]), NONE);
            due("end(1), empty behind it", x.end(1), false);
        }
        for (int k = 0; k <= 3; k++) {
            due("text(" + k + ") with a fault", say(x, k, LINES[k] + " z"), NONE);
            due("end(1), empty behind it", x.end(1), false);
        }
    }

    static void p11AnEmptyTape() {
        says(11, "THE LAW = {(ties | slips | tells) E [when B] ;}.");
        KnotLaundry x = house();
        for (int k = 0; k <= 3; k++) {
            due("text(" + k + ")", say(x, k, LINES[k]), 1);
            due("text(" + k + ") of an empty tape", x.text(k), 0);
            due("fault(0)", x.fault(0), 0);
            due("look(" + (9 + k) + "), no lines are a text, too", x.look(9 + k), 0);
            due("text(" + k + ") of blanks", say(x, k, " \n "), 0);
            refused(x, k, ";", 1, 0);
            refused(x, k, LINES[k] + ";", 1, LINES[k].length());
        }
        x.act(0, 0, 1);
        due("thingOf(0, 5), no law", x.thingOf(0, 5), 800);
        due("of(0, 6), no friends", x.of(0, 6), 0);
    }

    static void p11InThePlaceOfTheLatest() {
        says(11, "is TEXT k: how many lines. NONE: no such one");
        KnotLaundry x = lentAway();
        // Each text is read anew, however many were read before it.
        String law = "slips " + times(190, "1+") + "1;";
        for (int i = 1; i <= 4; i++) {
            due("text(0), the " + i + "th", say(x, LAW, law + "tells " + i + ";"), 2);
            due("thingOf(0, 5)", x.thingOf(0, 5), 191);
            due("thingOf(0, 6)", x.thingOf(0, 6), i);
        }
        due("text(0), of fewer lines", say(x, LAW, "slips 5;"), 1);
        due("look(9)", x.look(9), 1);
        due("thingOf(0, 5)", x.thingOf(0, 5), 5);
        due("thingOf(0, 6), no line tells it now", x.thingOf(0, 6), 0);
        say(x, DEEDS, "on 0 wash 0; on 0 wash 1;");
        due("text(1), of fewer lines", say(x, DEEDS, "on 0 wash 0;"), 1);
        say(x, MINDS, "on 0 person 0 mind 7; on 0 person 1 mind 7;");
        due("text(2), of fewer lines", say(x, MINDS, "on 0 person 0 mind 8;"), 1);
        say(x, FRIENDS, "person 0 knows 1; person 0 knows 2;");
        due("text(3), of fewer lines", say(x, FRIENDS, "person 1 knows 2;"), 1);
        x.days(1);
        due("clothOf(0, 1)", x.clothOf(0, 1), 1);
        due("clothOf(1, 1)", x.clothOf(1, 1), 0);
        due("of(0, 0)", x.of(0, 0), 8);
        due("of(1, 0)", x.of(1, 0), 0);
        due("of(0, 6)", x.of(0, 6), 0);
        due("of(2, 6)", x.of(2, 6), 2);
    }

    static void p11NoSuchOne() {
        says(11, "NONE: no such one (fault() tells 0)");
        for (int k : new int[] {-1, 4, LEAST, MOST}) {
            KnotLaundry x = house();
            due("text(0) with a fault", say(x, LAW, "slips z;"), NONE);
            due("fault(0)", x.fault(0), 1);
            String was = all(x);
            due("text(" + k + ")", say(x, k, "slips 7;"), NONE);
            due("fault(0)", x.fault(0), 0);
            due("fault(1)", x.fault(1), NONE);
            due("end(1)", x.end(1), false);
            same("text(" + k + ")", was, x);
        }
    }

    static void p11TheTextStaysAsItWas() {
        says(11, "or a FAULT (the TEXT stays as it was; the TAPE is empty in each case).");
        KnotLaundry x = lentAway();
        say(x, LAW, "slips 7; tells 8;");
        say(x, DEEDS, "on 0 wash 0;");
        say(x, MINDS, "on 0 person 1 mind 5;");
        say(x, FRIENDS, "person 0 knows 1;");
        x.act(2, 0, 0);
        String was = all(x);
        due("text(0)", say(x, LAW, "slips 9; tells 9; ties 9; z"), NONE);
        due("text(1)", say(x, DEEDS, "on 0 wash 1; on 0 wash 1; z"), NONE);
        due("text(2)", say(x, MINDS, "on 0 person 0 mind 9; on 0 person 1 mind 9; z"), NONE);
        due("text(3)", say(x, FRIENDS, "person 0 knows 2; person 1 knows 2; z"), NONE);
        same("four refused", was, x);
        due("look(13), nothing is forgotten by them", x.look(13), 1);
        due("thingOf(0, 5)", x.thingOf(0, 5), 7);
        due("thingOf(0, 6)", x.thingOf(0, 6), 8);
        due("thingOf(0, 21)", x.thingOf(0, 21), 1);
        due("of(0, 6)", x.of(0, 6), 2);
        x.days(1);
        due("clothOf(0, 1)", x.clothOf(0, 1), 2);
        due("clothOf(1, 1)", x.clothOf(1, 1), 0);
        due("of(0, 0)", x.of(0, 0), 4);
        due("of(1, 0)", x.of(1, 0), 5);
        due("end(1)", x.end(1), false);
    }

    static void p11SixteenLines() {
        says(11, "16 lines of each at most.");
        for (int k = 0; k <= 3; k++) {
            KnotLaundry x = lentAway();
            String sixteen = times(16, LINES[k]);
            taken(x, k, times(15, LINES[k]), 15);
            refused(x, k, sixteen + LINES[k], 3, sixteen.length());
            due("look(" + (9 + k) + ")", x.look(9 + k), 15);
            due("end(1)", x.end(1), false);
            taken(x, k, sixteen, 16);
            due("look(" + (9 + k) + ")", x.look(9 + k), 16);
        }
        KnotLaundry x = lentAway();
        taken(x, LAW, times(15, "slips 7 when 1 = 2;") + "slips 8;", 16);
        due("thingOf(0, 5), the sixteenth counts", x.thingOf(0, 5), 8);
        KnotLaundry y = lentAway();
        taken(y, DEEDS, times(16, "on 0 wash 1;"), 16);
        y.set(1, 1, 50);
        y.days(1);
        due("clothOf(1, 1), washed sixteen times", y.clothOf(1, 1), 66);
        KnotLaundry z = lentAway();
        taken(z, MINDS, times(15, "on 0 person 1 mind 5;") + "on 0 person 1 mind 8;", 16);
        z.days(1);
        due("of(1, 0), the sixteenth counts", z.of(1, 0), 8);
        KnotLaundry u = lentAway();
        taken(u, FRIENDS, times(15, "person 0 knows 1;") + "person 0 knows 2;", 16);
        due("of(2, 6), the sixteenth counts", u.of(2, 6), 1);
    }

    static void p11TheSeventeenthAtItsKeyword() {
        says(11, "3 (at its KEYWORD) the 17th line of a text");
        KnotLaundry x = house();
        for (int k = 0; k <= 3; k++) {
            String sixteen = times(16, LINES[k]) + "\n";
            String[] first = {"tells", "on", "on", "person"};
            refused(x, k, sixteen + first[k], 3, sixteen.length());
            refused(x, k, sixteen + first[k] + " z", 3, sixteen.length());
        }
        String sixteen = times(16, LINES[0]);
        for (String word : new String[] {"ties", "slips", "tells"}) refused(x, LAW, sixteen + " " + word + " 1;", 3, 129);
    }

    static void p11AtOnePlaceTheLeast() {
        says(11, "FAULTS, the first by its place, at one place the least");
        KnotLaundry x = house();
        // What would be the 17th line, but can't stand there.
        refused(x, LAW, times(16, LINES[0]) + "z", 1, 128);
        refused(x, LAW, times(16, LINES[0]) + "on 0 wash 0;", 1, 128);
        refused(x, DEEDS, times(16, LINES[1]) + "slips 1;", 1, 192);
        refused(x, MINDS, times(16, LINES[2]) + ";", 1, 336);
        refused(x, FRIENDS, times(16, LINES[3]) + "17", 1, 272);
        // What would be a person that there is not, a 9th sign that is open: but it can't stand there.
        refused(x, MINDS, "on 0 person 12345 mind 1;", 1, 12);
        refused(x, DEEDS, "on 00000 wash 0;", 1, 3);
        refused(x, LAW, "slips 8/00000;", 1, 8);
        refused(x, LAW, "slips 1 when " + times(8, "(") + "1 (", 1, 23);
        refused(x, LAW, "slips 1 when " + times(8, "not ") + "1 not", 1, 47);
        // The first by its place, whichever is the less.
        refused(x, LAW, "slips 8/0; z", 2, 8);
        refused(x, LAW, "slips z; slips 8/0;", 1, 6);
        refused(x, DEEDS, "on 1000 wash 9; z", 2, 3);
        refused(x, DEEDS, "on 0 wash 9 z", 2, 10);
        refused(x, FRIENDS, "person 3 knows 3;", 2, 7);
        refused(x, LAW, "slips 1 when " + times(9, "(") + "8/0 z", 3, 21);
        refused(x, LAW, times(15, LINES[0]) + "slips 8/0; slips 7;", 2, 128);
    }

    static void p11TheEnd() {
        says(11, "1 what can't stand there (the end: the text's length)");
        KnotLaundry x = house();
        String law = "slips 1 when not ( 1 < 2 ) or 1 = 8 / 2 and 1 > 2 ;";
        for (int n = 1; n < law.length(); n++) {
            boolean isWhole = law.charAt(n) == ' ' || law.charAt(n - 1) == ' ';
            if (isWhole) refused(x, LAW, law.substring(0, n), 1, n);
        }
        taken(x, LAW, law, 1);
        KnotLaundry y = house();
        for (String deed : new String[] {"on 0 tie 0 0 ;", "on 0 lend 0 1 ;", "on 0 wash 0 ;", "on 0 pull 0 ;"}) {
            for (int n = 1; n < deed.length(); n++) {
                if (deed.charAt(n) == ' ') refused(y, DEEDS, deed.substring(0, n), 1, n);
            }
            taken(y, DEEDS, deed, 1);
        }
        KnotLaundry z = house();
        String mind = "on 0 person 0 mind 9 ;";
        for (int n = 1; n < mind.length(); n++) {
            if (mind.charAt(n) == ' ') refused(z, MINDS, mind.substring(0, n), 1, n);
        }
        taken(z, MINDS, mind, 1);
        String friends = "person 0 knows 1 ;";
        for (int n = 1; n < friends.length(); n++) {
            if (friends.charAt(n) == ' ') refused(z, FRIENDS, friends.substring(0, n), 1, n);
        }
        taken(z, FRIENDS, friends, 1);
        refused(z, LAW, "slips 1", 1, 7);
        refused(z, LAW, "slips 1 \n ", 1, 10);
        refused(z, LAW, "slips 1" + times(393, " "), 1, 400);
    }

    static void p11Letters() {
        says(11, "letters (a .. z, A .. Z) as many as stand together are KEYWORDS (those told here for that text) or none");
        KnotLaundry x = house();
        // A letter makes another word of "and"; what is none can't stand behind it.
        for (char c : new char[] {'a', 'z', 'A', 'Z'}) refused(x, LAW, "slips 1 when 1 = 1 and" + c + " 1 = 1;", 1, 19);
        for (char c : new char[] {'`', '{', '@', '['}) refused(x, LAW, "slips 1 when 1 = 1 and" + c + " 1 = 1;", 1, 22);
        refused(x, LAW, "Slips 1;", 1, 0);
        refused(x, LAW, "SLIPS 1;", 1, 0);
        refused(x, LAW, "slip 1;", 1, 0);
        refused(x, LAW, "slipss 1;", 1, 0);
        refused(x, LAW, "slipstells 1;", 1, 0);
        refused(x, LAW, "sl ips 1;", 1, 0);
        refused(x, LAW, "slips minds;", 1, 6);
        refused(x, DEEDS, "on 0 ties 0 0;", 1, 5);
        refused(x, DEEDS, "on 0 tied 0 0;", 1, 5);
        taken(x, LAW, "slips1;tells mind+1when mind<2or mind>3and not(mind=7);", 2);
        taken(x, DEEDS, "on0tie0 0;", 1);
        taken(x, MINDS, "on0person0mind9;", 1);
        taken(x, FRIENDS, "person0knows1;", 1);
    }

    static void p11KeywordsOfThatText() {
        says(11, "KEYWORDS (those told here for that text) or none");
        KnotLaundry x = house();
        refused(x, LAW, "slips tie;", 1, 6);
        refused(x, LAW, "slips person;", 1, 6);
        refused(x, LAW, "on 0 wash 0;", 1, 0);
        refused(x, LAW, "mind 1;", 1, 0);
        refused(x, LAW, "when 1;", 1, 0);
        refused(x, DEEDS, "on 0 day 0 0;", 1, 5);
        refused(x, DEEDS, "on 0 when 0;", 1, 5);
        refused(x, DEEDS, "slips 1;", 1, 0);
        refused(x, DEEDS, "on 0 person 0 mind 1;", 1, 5);
        refused(x, DEEDS, "on day wash 0;", 1, 3);
        refused(x, MINDS, "on 0 wash 0;", 1, 5);
        refused(x, MINDS, "on 0 person 0 knows 1;", 1, 14);
        refused(x, MINDS, "person 0 knows 1;", 1, 0);
        refused(x, FRIENDS, "person 0 mind 1;", 1, 9);
        refused(x, FRIENDS, "on 0 person 0 mind 1;", 1, 0);
        String[] quantities = {"mind", "tight", "worn", "knots", "knows", "kept", "forgot", "open", "day"};
        for (String quantity : quantities) taken(x, LAW, "slips " + quantity + ";", 1);
        for (String word : new String[] {"slips", "ties", "tells", "when", "or", "and", "not", ";", "("}) {
            refused(x, LAW, "slips " + word + ";", 1, 6);
        }
    }

    static void p11NumbersOfFourDigits() {
        says(11, "digits as many as stand together NUMBERS of 1 to 4 digits or none");
        KnotLaundry x = lentAway();
        taken(x, LAW, "slips 9999;", 1);
        due("thingOf(0, 5)", x.thingOf(0, 5), 1000);
        taken(x, LAW, "slips 9999 - 9000;", 1);
        due("thingOf(0, 5)", x.thingOf(0, 5), 999);
        refused(x, LAW, "slips 10000;", 1, 6);
        refused(x, LAW, "slips 00007;", 1, 6);
        refused(x, LAW, "slips " + times(30, "9") + ";", 1, 6);
        due("thingOf(0, 5)", x.thingOf(0, 5), 999);
        taken(x, LAW, "slips 0007;", 1);
        due("thingOf(0, 5)", x.thingOf(0, 5), 7);
        taken(x, LAW, "slips 109 + 90 / 5;", 1);
        due("thingOf(0, 5), 109 and 18", x.thingOf(0, 5), 127);
        // Digits are 0 to 9 alone: / stands for itself, : for nothing.
        taken(x, LAW, "slips 9/3;", 1);
        due("thingOf(0, 5)", x.thingOf(0, 5), 3);
        refused(x, LAW, "slips 9:3;", 1, 7);
        refused(x, LAW, "slips 1 2;", 1, 8);
        taken(x, DEEDS, "on 0999 wash 0001;", 1);
        refused(x, DEEDS, "on 00999 wash 1;", 1, 3);
    }

    static void p11Blanks() {
        says(11, "Blanks (32, 10) between.");
        KnotLaundry x = lentAway();
        taken(x, LAW, "\n \n slips\n7\n;\n", 1);
        due("thingOf(0, 5)", x.thingOf(0, 5), 7);
        taken(x, LAW, " slips 8 ; ", 1);
        due("thingOf(0, 5)", x.thingOf(0, 5), 8);
        for (int b : new int[] {0, 9, 11, 13, 31, 33, 127, 128, 160, 255}) refused(x, LAW, "slips" + (char) b + "9;", 1, 5);
        due("thingOf(0, 5)", x.thingOf(0, 5), 8);
        refused(x, DEEDS, "on 0\twash 0;", 1, 4);
        taken(x, DEEDS, "on\n0\nwash 0\n;", 1);
    }

    static void p11Signs() {
        says(11, "; + - * / ( ) < = > .");
        KnotLaundry x = lentAway();
        taken(x, LAW, "slips 8*9/2-3+1 when (1<2) and (2=2) and (3>2);", 1);
        due("thingOf(0, 5)", x.thingOf(0, 5), 34);
        for (char c : "!\"#$%&',.:?[\\]^_{|}~".toCharArray()) refused(x, LAW, "slips 1" + c + ";", 1, 7);
        refused(x, LAW, "slips 1 when 1<=2;", 1, 15);
        refused(x, LAW, "slips 1 when 1==2;", 1, 15);
        refused(x, LAW, "slips 1;;", 1, 8);
        refused(x, LAW, "slips - 1;", 1, 6);
        refused(x, LAW, "slips (1);", 1, 6);
        refused(x, LAW, "slips 1 when (mind) = 1;", 1, 18);
        refused(x, LAW, "slips 1 when mind;", 1, 17);
        refused(x, LAW, "slips 1 when ();", 1, 14);
        refused(x, LAW, "slips 1 when;", 1, 12);
        refused(x, LAW, "slips 1 when 1 = 2 = 3;", 1, 19);
        refused(x, LAW, "slips 1 when 1 = 1);", 1, 18);
        refused(x, LAW, "slips 1 when (1 = 1;", 1, 19);
        refused(x, LAW, "slips 1 when 1 = 1 when 1 = 1;", 1, 19);
    }

    static void p11APartByNought() {
        says(11, "2 (at the NUMBER) a part by 0");
        KnotLaundry x = lentAway();
        taken(x, LAW, "slips 8/1;", 1);
        due("thingOf(0, 5)", x.thingOf(0, 5), 8);
        refused(x, LAW, "slips 8/0;", 2, 8);
        refused(x, LAW, "slips 8 / 0000;", 2, 10);
        refused(x, LAW, "slips 8/2/0;", 2, 10);
        refused(x, LAW, "slips 1 when 1 = 8/0;", 2, 19);
        due("thingOf(0, 5)", x.thingOf(0, 5), 8);
        taken(x, LAW, "slips 0/9999;", 1);
        due("thingOf(0, 5)", x.thingOf(0, 5), 0);
        taken(x, LAW, "slips 9999/9999;", 1);
        due("thingOf(0, 5)", x.thingOf(0, 5), 1);
        taken(x, LAW, "slips 8*0;", 1);
        refused(x, LAW, "slips 8/mind;", 1, 8);
        refused(x, LAW, "slips 8/;", 1, 8);
    }

    static void p11TheDaysBounds() {
        says(11, "1 DEEDS = {on DAY (tie THING CLOTH | lend CLOTH PERSON | wash CLOTH | pull CLOTH) ;} (DAY 0 .. 999.)");
        KnotLaundry x = house();
        taken(x, DEEDS, "on 0 wash 0; on 999 wash 0;", 2);
        for (int day : new int[] {1000, 9999}) refused(x, DEEDS, "on " + day + " wash 0;", 2, 3);
        refused(x, DEEDS, "on 999 wash 0; on 1000 wash 0;", 2, 18);
        due("look(10)", x.look(10), 2);
    }

    static void p11TheMindsBounds() {
        says(11, "2 MINDS = {on DAY person PERSON mind N ;} (DAY 0 .. 999; N 0 .. 9.)");
        KnotLaundry x = house();
        taken(x, MINDS, "on 0 person 0 mind 0; on 999 person 0 mind 9; on 0 person 1 mind 9;", 3);
        refused(x, MINDS, "on 1000 person 0 mind 0;", 2, 3);
        refused(x, MINDS, "on 0 person 0 mind 10;", 2, 19);
        refused(x, MINDS, "on 0 person 0 mind 9999;", 2, 19);
        due("look(11)", x.look(11), 3);
        x.days(1);
        due("of(0, 0)", x.of(0, 0), 0);
        due("of(1, 0)", x.of(1, 0), 9);
    }

    static void p11OneBeyondItsBounds() {
        says(11, "2 (at the NUMBER) a part by 0; one beyond its bounds");
        KnotLaundry x = house();
        // At the number itself, wherever it stands, and blanks ahead of it not counted.
        taken(x, DEEDS, "on  999  wash 0;", 1);
        refused(x, DEEDS, "on  1000  wash 0;", 2, 4);
        refused(x, DEEDS, "on 0 wash 0;\non\n\n9999 wash 0;", 2, 17);
        taken(x, MINDS, "on 0 person 0 mind  0009;", 1);
        refused(x, MINDS, "on 0 person 0 mind  0010;", 2, 20);
        // A law's numbers have no bounds but their four digits.
        taken(x, LAW, "slips 9999 when 9999 > 0000;", 1);
    }

    static void p11WhomThereIsNot() {
        says(11, "a THING, a CLOTH, a PERSON that there is not");
        KnotLaundry x = house();
        taken(x, DEEDS, "on 0 tie 3 1; on 0 lend 1 2; on 0 wash 1; on 0 pull 1;", 4);
        refused(x, DEEDS, "on 0 tie 4 1;", 2, 9);
        refused(x, DEEDS, "on 0 tie 3 2;", 2, 11);
        refused(x, DEEDS, "on 0 lend 2 2;", 2, 10);
        refused(x, DEEDS, "on 0 lend 1 3;", 2, 12);
        refused(x, DEEDS, "on 0 wash 2;", 2, 10);
        refused(x, DEEDS, "on 0 pull 2;", 2, 10);
        taken(x, MINDS, "on 0 person 2 mind 0;", 1);
        refused(x, MINDS, "on 0 person 3 mind 0;", 2, 12);
        taken(x, FRIENDS, "person 2 knows 0; person 0 knows 2;", 2);
        refused(x, FRIENDS, "person 3 knows 0;", 2, 7);
        refused(x, FRIENDS, "person 0 knows 3;", 2, 15);
        KnotLaundry y = new KnotLaundry();
        refused(y, DEEDS, "on 0 tie 0 0;", 2, 9);
        refused(y, DEEDS, "on 0 lend 0 0;", 2, 10);
        refused(y, DEEDS, "on 0 wash 0;", 2, 10);
        refused(y, MINDS, "on 0 person 0 mind 0;", 2, 12);
        refused(y, FRIENDS, "person 0 knows 1;", 2, 7);
        KnotLaundry z = house(12, 14, 20, 5);
        taken(z, DEEDS, "on 0 tie 19 13; on 0 lend 13 11;", 2);
        refused(z, DEEDS, "on 0 tie 20 13;", 2, 9);
        refused(z, DEEDS, "on 0 wash 14;", 2, 10);
        refused(z, DEEDS, "on 0 lend 13 12;", 2, 13);
    }

    static void p11TheSamePersonAgain() {
        says(11, "the same PERSON again (of FRIENDS, behind knows)");
        KnotLaundry x = house();
        refused(x, FRIENDS, "person 0 knows 0;", 2, 15);
        refused(x, FRIENDS, "person 2 knows 0002;", 2, 15);
        taken(x, FRIENDS, "person 2 knows 1;", 1);
        due("of(2, 6)", x.of(2, 6), 2);
        due("of(0, 6)", x.of(0, 6), 0);
    }

    static void p11EitherWayAndTwice() {
        says(11, "(either way; unlike; told twice it is one.)");
        KnotLaundry x = lentAway();
        taken(x, FRIENDS, "person 0 knows 1; person 0 knows 1; person 1 knows 0;", 3);
        due("of(0, 6)", x.of(0, 6), 2);
        due("of(1, 6)", x.of(1, 6), 1);
        due("thingOf(0, 6), one knowing", x.thingOf(0, 6), 300);
        due("look(12), three lines", x.look(12), 3);
        taken(x, FRIENDS, "person 1 knows 0;", 1);
        due("of(0, 6), the other way", x.of(0, 6), 2);
        due("thingOf(0, 6)", x.thingOf(0, 6), 300);
    }

    static void p11TheNinthThatIsOpen() {
        says(11, "(at it) the 9th ( or not that is open.");
        KnotLaundry x = lentAway();
        String begin = "slips 1 when ";
        taken(x, LAW, begin + times(8, "(") + "1 = 1" + times(8, ")") + ";", 1);
        due("thingOf(0, 5)", x.thingOf(0, 5), 1);
        refused(x, LAW, begin + times(9, "(") + "1 = 1" + times(9, ")") + ";", 3, 21);
        taken(x, LAW, begin + times(8, "not ") + "1 = 1;", 1);
        refused(x, LAW, begin + times(9, "not ") + "1 = 1;", 3, 13 + 32);
        taken(x, LAW, begin + times(4, "not(") + "1 = 1" + times(4, ")") + ";", 1);
        refused(x, LAW, begin + times(4, "not(") + "not 1 = 1" + times(4, ")") + ";", 3, 13 + 16);
        refused(x, LAW, begin + times(4, "not(") + "(1 = 1)" + times(4, ")") + ";", 3, 13 + 16);
        // One that is closed again is not open: a not is so behind what it is said of.
        taken(x, LAW, begin + times(9, "(1 = 1) and ") + "1 = 1;", 1);
        taken(x, LAW, begin + times(9, "not 1 = 2 and ") + "1 = 1;", 1);
        due("thingOf(0, 5)", x.thingOf(0, 5), 1);
        taken(x, LAW, begin + times(7, "(") + "(1 = 1) and (1 = 1) and not 1 = 2 and (1 = 1)" + times(7, ")") + ";", 1);
        taken(x, LAW, begin + "not 1 = 2 and " + times(8, "(") + "1 = 1" + times(8, ")") + ";", 1);
        refused(x, LAW, begin + "not " + times(8, "(") + "1 = 1" + times(8, ")") + ";", 3, 13 + 4 + 7);
        refused(x, LAW, begin + times(7, "(") + "(1 = 1) and ((1 = 1))" + times(7, ")") + ";", 3, 13 + 7 + 13);
    }

    // ---- promise 12: fault

    static void p12BeforeAnyText() {
        says(12, "Of the latest text() what 0 the FAULT (0 without one), 1 its place (NONE).");
        KnotLaundry x = house();
        due("fault(0), no text yet", x.fault(0), 0);
        due("fault(1), no text yet", x.fault(1), NONE);
        say(x, LAW, "z");
        due("fault(0)", x.fault(0), 1);
        due("fault(1), at the first place", x.fault(1), 0);
        feedAll(x, 32);
        x.end(1);
        x.days(1);
        due("fault(0), no text since", x.fault(0), 1);
        due("fault(1), no text since", x.fault(1), 0);
        due("text(3) of a blank", x.text(FRIENDS), 0);
        due("fault(0)", x.fault(0), 0);
        due("fault(1)", x.fault(1), NONE);
        say(x, DEEDS, "on 1000");
        due("fault(0)", x.fault(0), 2);
        due("fault(1)", x.fault(1), 3);
        say(x, 4, "z");
        due("fault(0), no such one", x.fault(0), 0);
        due("fault(1), no such one", x.fault(1), NONE);
    }

    static void p12AnotherWhat() {
        says(12, "NONE for another what.");
        KnotLaundry x = house();
        for (int what : new int[] {-1, 2, LEAST, MOST}) due("fault(" + what + ")", x.fault(what), NONE);
        say(x, LAW, "slips 8/0;");
        for (int what : new int[] {-1, 2, LEAST, MOST}) due("fault(" + what + ")", x.fault(what), NONE);
        due("fault(0)", x.fault(0), 2);
        due("fault(1)", x.fault(1), 8);
    }

    // ---- promise 15: what the law tells

    static void p15IntsWhichWrap() {
        says(15, "Ints, which wrap; / goes towards 0.");
        so("9999 * 9999 * 21 > 0", true);
        so("9999 * 9999 * 22 < 0", true);
        so("9999 * 9999 * 9999 < 0", true);
        so("9999 * 9999 * 21 + 9999 * 9999 < 0", true);
        so("0 - 9999 * 9999 * 21 - 9999 * 9999 > 0", true);
        // It comes to -2095407274; a tenth of it is -209540727, not one less.
        so("9999 * 9999 * 22 / 10 + 9999 * 9999 * 2 + 9999 * 958 + 1683 = 0", true);
        so("7 / 2 = 3", true);
        so("0 - 7 / 2 = 0 - 3", true);
        so("1 / 2 = 0", true);
        so("2 + 3 * 4 - 8 / 4 / 2 = 13", true);
        so("7 / 2 * 2 = 6", true);
        so("9 - 3 - 2 = 4", true);
    }

    static void p15TheFirstLineThatIsSo() {
        says(15, "E of the first line with that word whose B is so, or that has none");
        due("slips, of two the first", told("slips 3; slips 4;", 5), 3);
        due("slips, the first is not so", told("slips 3 when mind > 0; slips 4;", 5), 4);
        due("slips, the first is so", told("slips 3 when mind < 1; slips 4;", 5), 3);
        due("slips, the second is so", told("slips 3 when mind > 0; slips 5 when mind = 0; slips 4;", 5), 5);
        due("slips, lines of other words", told("ties 9; tells 8; slips 4;", 5), 4);
        due("tells, lines of other words", told("ties 9; slips 4; tells 8;", 6), 8);
        due("ties, lines of other words", told("slips 4; tells 8; ties 7;", 21), 7);
    }

    static void p15NoLineThatIsSo() {
        says(15, "(none: ties: 1 and half of mind, slips: 900 less 100 times tight, tells: 300 times knows and 50 times mind)");
        KnotLaundry x = new KnotLaundry();
        for (int mind = 0; mind <= 9; mind++) {
            x.person(mind);
            x.cloth(mind);
        }
        x.thing(0, 5);
        for (int mind = 0; mind <= 9; mind++) due("thingOf(0, " + (20 + mind) + "), ties", x.thingOf(0, 20 + mind), 1 + mind / 2);
        x.act(0, 0, 9);
        due("thingOf(0, 5), tight 5", x.thingOf(0, 5), 400);
        x.set(3, 0, 1);
        due("thingOf(0, 5), tight 1", x.thingOf(0, 5), 800);
        x.set(3, 0, 9);
        due("thingOf(0, 5), tight 9", x.thingOf(0, 5), 0);
        due("thingOf(0, 6), unknown, mind 9", x.thingOf(0, 6), 450);
        say(x, FRIENDS, "person 9 knows 0;");
        due("thingOf(0, 6), known, mind 9", x.thingOf(0, 6), 750);
        x.act(1, 9, 0);
        due("thingOf(0, 6), his own, mind 0", x.thingOf(0, 6), 600);
        x.act(1, 9, 1);
        due("thingOf(0, 6), unknown, mind 1", x.thingOf(0, 6), 50);
        say(x, LAW, "ties 9 when 1 = 2; slips 9 when 1 = 2; tells 9 when 1 = 2;");
        due("thingOf(0, 21), lines that are not so", x.thingOf(0, 21), 1);
        due("thingOf(0, 5), lines that are not so", x.thingOf(0, 5), 0);
        due("thingOf(0, 6), lines that are not so", x.thingOf(0, 6), 50);
    }

    static void p15QuotientsGoDownwards() {
        says(15, "Quotients go downwards.");
        KnotLaundry x = house();
        int[] half = {0, 0, 1, 1, 2, 2, 3, 3, 4, 4};
        for (int mind = 0; mind <= 9; mind++) {
            x.set(0, 0, mind);
            due("thingOf(0, 20), mind " + mind, x.thingOf(0, 20), 1 + half[mind]);
        }
        for (int c = 0; c < 3; c++) due("piles(" + c + ", 1000)", x.piles(c, 1000), 0);
        due("piles(26, 1222), 26 by 3 is 8", x.piles(26, 1222), 26);
    }

    static void p15TiesHeld() {
        says(15, "ties held to 1 .. 9");
        int[][] ties = {{0, 1}, {1, 1}, {2, 2}, {8, 8}, {9, 9}, {10, 9}, {9999, 9}};
        for (int[] t : ties) {
            due("ties " + t[0], told("ties " + t[0] + ";", 21), t[1]);
            KnotLaundry x = house();
            say(x, LAW, "ties " + t[0] + ";");
            x.act(0, 0, 0);
            due("thingOf(0, 3), ties " + t[0], x.thingOf(0, 3), t[1]);
            due("book(0, 3), ties " + t[0], x.book(0, 3), t[1]);
        }
        due("ties 0 - 1", told("ties 0 - 1;", 21), 1);
        due("ties, wrapped below 0", told("ties 9999 * 9999 * 9999;", 21), 1);
    }

    static void p15SlipsAndTellsHeld() {
        says(15, "slips, tells to 0 .. 1000");
        for (String word : new String[] {"slips ", "tells "}) {
            int what = word.charAt(0) == 's' ? 5 : 6;
            for (int n : new int[] {0, 1, 999, 1000}) due(word + n, told(word + n + ";", what), n);
            due(word + "1001", told(word + "1001;", what), 1000);
            due(word + "9999", told(word + "9999;", what), 1000);
            due(word + "0 - 1", told(word + "0 - 1;", what), 0);
            due(word + "0 - 9999", told(word + "0 - 9999;", what), 0);
        }
        // 300 times 2 and 50 times 9 is more than 1000.
        KnotLaundry x = house();
        x.act(1, 0, 2);
        x.act(0, 2, 0);
        due("thingOf(2, 6), the custom is held, too", x.thingOf(2, 6), 1000);
        x.set(0, 2, 8);
        due("thingOf(2, 6)", x.thingOf(2, 6), 1000);
        x.set(0, 2, 7);
        due("thingOf(2, 6)", x.thingOf(2, 6), 950);
    }

    static void p15Knows() {
        says(15, "knows: 2 if it is WITH whom the THING is OF, 1 if these two know one another, else 0");
        KnotLaundry x = lentAway();
        say(x, LAW, "slips knows;");
        due("thingOf(0, 5), unknown", x.thingOf(0, 5), 0);
        say(x, FRIENDS, "person 0 knows 2; person 2 knows 1;");
        due("thingOf(0, 5), both know another", x.thingOf(0, 5), 0);
        say(x, FRIENDS, "person 0 knows 1;");
        due("thingOf(0, 5), known", x.thingOf(0, 5), 1);
        say(x, FRIENDS, "person 1 knows 0;");
        due("thingOf(0, 5), known the other way", x.thingOf(0, 5), 1);
        x.act(1, 1, 0);
        due("thingOf(0, 5), his own", x.thingOf(0, 5), 2);
        x.act(1, 1, 2);
        due("thingOf(0, 5), unknown again", x.thingOf(0, 5), 0);
    }

    static void p15WhatTheWordsSee() {
        says(15, "mind: of the PERSON the CLOTH is WITH; tight: TIGHT; worn; knots: how many the CLOTH has");
        KnotLaundry x = house(2, 2, 5, 100);
        x.act(1, 1, 1);
        x.set(0, 0, 9);
        x.act(0, 0, 0);
        x.act(0, 1, 1);
        say(x, LAW, "slips mind;");
        due("thingOf(0, 5), mind 9", x.thingOf(0, 5), 9);
        due("thingOf(1, 5), mind 0", x.thingOf(1, 5), 0);
        say(x, LAW, "slips tight;");
        x.set(3, 0, 9);
        due("thingOf(0, 5), tight 9", x.thingOf(0, 5), 9);
        due("thingOf(1, 5), tight 1", x.thingOf(1, 5), 1);
        say(x, LAW, "slips worn; ties worn / 11;");
        x.set(1, 0, 99);
        due("thingOf(0, 5), worn 99", x.thingOf(0, 5), 99);
        due("thingOf(1, 5), worn 0", x.thingOf(1, 5), 0);
        due("thingOf(1, 20), of the cloth asked of", x.thingOf(1, 20), 9);
        say(x, LAW, "slips knots; ties knots;");
        for (int t = 2; t <= 4; t++) x.act(0, t, 0);
        due("thingOf(0, 5), four knots", x.thingOf(0, 5), 4);
        due("thingOf(1, 5), one knot", x.thingOf(1, 5), 1);
        due("thingOf(1, 20), of the cloth asked of", x.thingOf(1, 20), 4);
    }

    static void p15KeptForgotOpenDay() {
        says(15, "kept, forgot: of whom it is OF; open: how many THINGS are open; day.");
        KnotLaundry x = house();
        x.act(0, 0, 0);
        x.act(0, 3, 1);
        x.act(0, 2, 1);
        x.set(2, 1, 2);
        x.set(2, 2, 20);
        say(x, LAW, "slips kept * 10 + forgot; tells open; ties day;");
        due("thingOf(3, 6), all are open", x.thingOf(3, 6), 4);
        due("thingOf(3, 20), day 0 held to 1", x.thingOf(3, 20), 1);
        x.days(3);
        due("thingOf(3, 5), one kept", x.thingOf(3, 5), 10);
        due("thingOf(2, 5), of another", x.thingOf(2, 5), 0);
        due("thingOf(3, 6), two are open", x.thingOf(3, 6), 2);
        due("thingOf(3, 20), day 3", x.thingOf(3, 20), 3);
        x.thing(0, 3);
        x.days(1);
        due("thingOf(3, 5), one kept, one forgotten", x.thingOf(3, 5), 11);
        KnotLaundry y = house(1, 1, 20, 50);
        y.act(0, 19, 0);
        say(y, LAW, "slips open; tells day - 9000;");
        due("thingOf(19, 5), twenty", y.thingOf(19, 5), 20);
        y.set(2, 19, 0);
        y.days(1);
        due("thingOf(19, 4)", y.thingOf(19, 4), 1);
        y.act(0, 18, 0);
        due("thingOf(18, 5), nineteen", y.thingOf(18, 5), 19);
        y.set(2, 18, 0);
        daysTill(y, 9999);
        due("thingOf(18, 6), day 9999", y.thingOf(18, 6), 999);
    }

    static void p15BesideOneAnother() {
        says(15, "C = E (< | = | >) E | not C | ( B ).");
        so("1 < 2", true);
        so("2 < 2", false);
        so("3 < 2", false);
        so("1 = 2", false);
        so("2 = 2", true);
        so("3 = 2", false);
        so("1 > 2", false);
        so("2 > 2", false);
        so("3 > 2", true);
        so("0 - 1 < 0", true);
        so("not 2 = 2", false);
        so("not not 2 = 2", true);
        so("not 1 = 2 and 1 = 1", true);
        so("not 1 = 1 or 1 = 1", true);
        so("not (1 = 1 or 1 = 1)", false);
    }

    static void p15AndAheadOfOr() {
        says(15, "B = A {or A}. A = C {and C}.");
        so("1 = 1 or 1 = 1 and 1 = 2", true);
        so("1 = 2 and 1 = 1 or 1 = 1", true);
        so("(1 = 1 or 1 = 1) and 1 = 2", false);
        so("1 = 2 and (1 = 1 or 1 = 1)", false);
        so("1 = 2 or 1 = 2 and 1 = 1 or 1 = 1", true);
        so("1 = 2 or 1 = 2", false);
        so("1 = 1 and 1 = 1 and 1 = 2", false);
        so("1 = 1 and 1 = 1 and 1 = 1", true);
        so("1 = 2 or 1 = 2 or 1 = 1", true);
    }
}
