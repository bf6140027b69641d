/** The boundary cases of promises 1 to 8 and 13 to 18: who there is, what is done by hand, how days go, what is read of them. */
public final class EdgeDaysTest extends Edge {
    public static void main(String[] args) {
        run(EdgeDaysTest.class, 1, 2, 3, 4, 5, 6, 7, 8, 13, 14, 15, 16, 17, 18);
    }

    /** The state out of which a draw of 1000 comes to 563, and what the state is behind it. */
    private static final int DRAWS_563 = 0;
    private static final int BEHIND_563 = 1013904223;

    /** Thing 0 of person 0 in cloth 1, which is with person 1; it is due on day 2. */
    static KnotLaundry lentAway() {
        KnotLaundry x = house();
        x.act(0, 0, 1);
        return x;
    }

    /** As many things as a cloth holds in cloth 0, and one more in none. */
    static KnotLaundry fullCloth() {
        KnotLaundry x = house(1, 1, 5, 100);
        for (int t = 0; t < 4; t++) x.act(0, t, 0);
        return x;
    }

    /** Thing 0 kept and thing 1 forgotten on day 0, thing 2 open: all of person 0. */
    static KnotLaundry keptAndForgotten() {
        KnotLaundry x = house(1, 1, 2, 0);
        x.thing(0, 50);
        x.act(0, 0, 0);
        x.days(1);
        return x;
    }

    // ---- promise 1: a new object

    static void p01NobodyAndNothing() {
        says(1, "Nobody, and nothing to remember.");
        KnotLaundry x = new KnotLaundry();
        for (int what : new int[] {0, 1, 2, 3, 4, 5, 7}) due("look(" + what + ")", x.look(what), 0);
        for (int what = 0; what <= 6; what++) due("of(0, " + what + ")", x.of(0, what), NONE);
        due("clothOf(0, 0)", x.clothOf(0, 0), NONE - 1);
        due("clothOf(0, 2)", x.clothOf(0, 2), NONE - 1);
        due("thingOf(0, 0)", x.thingOf(0, 0), NONE - 1);
        due("thingOf(0, 20)", x.thingOf(0, 20), NONE - 1);
        due("book(0, 0)", x.book(0, 0), NONE - 1);
        due("fate(0)", x.fate(0), NONE);
        due("cloth(0)", x.cloth(0), NONE);
        due("thing(0, 0)", x.thing(0, 0), NONE);
        due("days(1)", x.days(1), 0);
        due("look(7), a day on", x.look(7), 0);
        KnotLaundry y = new KnotLaundry();
        due("person(3) of another object", y.person(3), 0);
        due("look(0) of this one", x.look(0), 0);
        due("look(0) of a third one", new KnotLaundry().look(0), 0);
    }

    static void p01FiveHundredAndTwelveCalls() {
        says(1, "An object is used for at most 512 calls after it has been made; what later calls answer is free.");
        KnotLaundry x = new KnotLaundry();
        due("person(3)", x.person(3), 0);
        due("cloth(0)", x.cloth(0), 0);
        due("thing(0, 999)", x.thing(0, 999), 0);
        due("act(0, 0, 0)", x.act(0, 0, 0), true);
        for (int i = 0; i < 506; i++) due("state(" + i + ")", x.state(i), Math.max(0, i - 1));
        due("thingOf(0, 2), the 511th call", x.thingOf(0, 2), 0);
        due("look(8), the 512th", x.look(8), 505);
        // Each of the 512 may be a dear one.
        KnotLaundry y = house(1, 1, 1, 999);
        for (int i = 0; i < 509; i++) due("goes(60, 1)", y.goes(60, 1), 0);
    }

    static void p01StateAtFirst() {
        says(1, "STATE of draws (an int, 0 at first)");
        KnotLaundry x = new KnotLaundry();
        due("look(8)", x.look(8), 0);
        due("state(5)", x.state(5), 0);
        due("look(8)", x.look(8), 5);
    }

    static void p01DayAtFirst() {
        says(1, "DAY 0 .. 9999 (0 at first).");
        KnotLaundry x = house(1, 0, 1, 0);
        x.thing(0, 1);
        due("look(6)", x.look(6), 0);
        due("of(0, 4), due on day 0 is to come yet", x.of(0, 4), 0);
        x.days(1);
        due("thingOf(0, 4), due on the first day", x.thingOf(0, 4), 2);
        due("thingOf(1, 4), due on the second", x.thingOf(1, 4), 0);
    }

    static void p01KeptAndForgotAtFirst() {
        says(1, "KEPT, FORGOT (ints, 0 at first)");
        KnotLaundry x = keptAndForgotten();
        due("of(0, 1)", x.of(0, 1), 1);
        due("of(0, 2)", x.of(0, 2), 1);
        x.person(0);
        due("of(1, 1) of one who came later", x.of(1, 1), 0);
        due("of(1, 2) of one who came later", x.of(1, 2), 0);
    }

    static void p01WornAtFirst() {
        says(1, "WORN 0 .. 99 (0 at first)");
        KnotLaundry x = house(1, 1, 0, 0);
        due("clothOf(0, 1)", x.clothOf(0, 1), 0);
        x.act(2, 0, 0);
        x.cloth(0);
        due("clothOf(0, 1), washed", x.clothOf(0, 1), 1);
        due("clothOf(1, 1) of a later one", x.clothOf(1, 1), 0);
    }

    static void p01KnotsAtFirst() {
        says(1, "its KNOTS: up to 4 THINGS in a row (none at first)");
        KnotLaundry x = fullCloth();
        x.cloth(0);
        due("clothOf(1, 2)", x.clothOf(1, 2), 0);
        due("clothOf(1, 10)", x.clothOf(1, 10), NONE);
        due("clothOf(0, 2)", x.clothOf(0, 2), 4);
        due("clothOf(0, 13)", x.clothOf(0, 13), 3);
        due("act(0, 4, 0), the fifth", x.act(0, 4, 0), false);
        due("act(0, 4, 1), a first", x.act(0, 4, 1), true);
        due("clothOf(1, 10)", x.clothOf(1, 10), 4);
    }

    static void p01InAtFirst() {
        says(1, "IN a CLOTH (NONE at first)");
        KnotLaundry x = house(1, 1, 1, 5);
        due("thingOf(0, 2)", x.thingOf(0, 2), NONE);
        x.act(0, 0, 0);
        x.thing(0, 5);
        due("thingOf(0, 2), tied", x.thingOf(0, 2), 0);
        due("thingOf(1, 2) of a later one", x.thingOf(1, 2), NONE);
    }

    static void p01TightAtFirst() {
        says(1, "TIGHT 0 .. 9 (0 if it is IN none)");
        KnotLaundry x = house(1, 1, 2, 5);
        due("thingOf(0, 3)", x.thingOf(0, 3), 0);
        x.act(0, 0, 0);
        due("thingOf(0, 3), tied", x.thingOf(0, 3), 1);
        due("thingOf(1, 3) of the other", x.thingOf(1, 3), 0);
        x.set(3, 0, 9);
        due("thingOf(0, 3)", x.thingOf(0, 3), 9);
    }

    static void p01IsAtFirst() {
        says(1, "IS 0 open, 1 kept, 2 forgotten (0 at first).");
        KnotLaundry x = keptAndForgotten();
        due("thingOf(0, 4)", x.thingOf(0, 4), 1);
        due("thingOf(1, 4)", x.thingOf(1, 4), 2);
        due("thingOf(2, 4)", x.thingOf(2, 4), 0);
        x.thing(0, 0);
        due("thingOf(3, 4) of a later one", x.thingOf(3, 4), 0);
    }

    static void p01TextsAtFirst() {
        says(1, "TEXTS (empty at first).");
        KnotLaundry x = house();
        for (int what = 9; what <= 12; what++) due("look(" + what + ")", x.look(what), 0);
        due("text(0) of a tape that is empty at first", x.text(0), 0);
        due("of(0, 6), nobody known", x.of(0, 6), 0);
        due("thingOf(0, 20), a tie that no law tells of", x.thingOf(0, 20), 3);
        x.days(1);
        due("of(0, 0), no mind told", x.of(0, 0), 4);
        due("look(5), no deed told", x.look(5), 0);
    }

    // ---- promise 2: state

    static void p02AnyStateIsTold() {
        says(2, "STATE is told: what it was.");
        KnotLaundry x = new KnotLaundry();
        int was = 0;
        for (int v : new int[] {MOST, LEAST, -1, 0, 1}) {
            due("state(" + v + ")", x.state(v), was);
            due("look(8)", x.look(8), v);
            was = v;
        }
    }

    /** A cloth of one knot which slips by the law's number, the state of draws told. */
    static KnotLaundry slipping(int state, String law) {
        KnotLaundry x = house(1, 1, 1, 100);
        x.act(0, 0, 0);
        say(x, 0, law);
        x.state(state);
        return x;
    }

    static void p02ADrawWraps() {
        says(2, "it becomes 1664525 times itself + 1013904223 (ints, which wrap)");
        int[][] draws = {{0, 1013904223}, {1013904223, 1196435762}, {1196435762, -775096599}, {-775096599, -1426500812},
            {MOST, -1135243950}, {LEAST, -1133579425}, {-1, 1012239698}, {457, 1774592148}};
        for (int[] draw : draws) {
            KnotLaundry x = slipping(draw[0], "slips 1;");
            x.act(2, 0, 0);
            due("look(8), drawn out of " + draw[0], x.look(8), draw[1]);
        }
    }

    static void p02ADrawIsWithoutSign() {
        says(2, "then it is its highest 24 bits (without sign) modulo m.");
        // The state is below 0 behind each of these, above it behind the last.
        int[][] draws = {{MOST, 669}, {LEAST, 171}, {1196435762, 494}, {1188, 999}, {1676, 0}, {-1, 61}};
        for (int[] draw : draws) {
            KnotLaundry x = slipping(draw[0], "slips " + draw[1] + ";");
            x.act(2, 0, 0);
            due("look(5), state " + draw[0] + ", slips " + draw[1], x.look(5), 1);
            KnotLaundry y = slipping(draw[0], "slips " + (draw[1] + 1) + ";");
            y.act(2, 0, 0);
            due("look(5), state " + draw[0] + ", slips " + (draw[1] + 1), y.look(5), 0);
        }
    }

    // ---- promise 3: person

    static void p03MindsBounds() {
        says(3, "MIND 0 .. 9");
        KnotLaundry x = new KnotLaundry();
        due("person(0)", x.person(0), 0);
        due("person(9)", x.person(9), 1);
        String was = all(x);
        for (int mind : new int[] {-1, 10, LEAST, MOST}) due("person(" + mind + ")", x.person(mind), NONE);
        same("four refused", was, x);
        due("of(0, 0)", x.of(0, 0), 0);
        due("of(1, 0)", x.of(1, 0), 9);
    }

    static void p03TwelvePersons() {
        says(3, "NONE if one can't be, or there are twelve.");
        KnotLaundry x = new KnotLaundry();
        for (int i = 0; i < 11; i++) x.person(0);
        due("look(0)", x.look(0), 11);
        due("person(7), the twelfth", x.person(7), 11);
        String was = all(x);
        due("person(7), the thirteenth", x.person(7), NONE);
        same("the thirteenth", was, x);
        due("look(0)", x.look(0), 12);
        due("of(11, 0)", x.of(11, 0), 7);
        due("of(12, 0)", x.of(12, 0), NONE);
    }

    static void p03PersonsAsTheyCome() {
        says(3, "PERSONS 0 .. 11 as they come");
        KnotLaundry x = new KnotLaundry();
        for (int i = 0; i < 12; i++) {
            due("person(10), refused between", x.person(10), NONE);
            due("person(" + i % 10 + ")", x.person(i % 10), i);
        }
        for (int i = 0; i < 12; i++) due("of(" + i + ", 0)", x.of(i, 0), i % 10);
    }

    // ---- promise 4: cloth

    static void p04WithAPerson() {
        says(4, "WITH a PERSON");
        KnotLaundry x = new KnotLaundry();
        due("cloth(0) with nobody there", x.cloth(0), NONE);
        x.person(1);
        x.person(1);
        due("cloth(0)", x.cloth(0), 0);
        due("cloth(1)", x.cloth(1), 1);
        String was = all(x);
        for (int person : new int[] {-1, 2, LEAST, MOST}) due("cloth(" + person + ")", x.cloth(person), NONE);
        same("four refused", was, x);
        due("clothOf(0, 0)", x.clothOf(0, 0), 0);
        due("clothOf(1, 0)", x.clothOf(1, 0), 1);
    }

    static void p04FourteenCloths() {
        says(4, "NONE if one can't be, or there are fourteen.");
        KnotLaundry x = house(12, 13, 0, 0);
        due("look(1)", x.look(1), 13);
        due("cloth(11), the fourteenth", x.cloth(11), 13);
        String was = all(x);
        due("cloth(11), the fifteenth", x.cloth(11), NONE);
        same("the fifteenth", was, x);
        due("look(1)", x.look(1), 14);
        due("clothOf(13, 0)", x.clothOf(13, 0), 11);
        due("clothOf(14, 0)", x.clothOf(14, 0), NONE - 1);
    }

    static void p04ClothsAsTheyCome() {
        says(4, "CLOTHS 0 .. 13 as they come");
        KnotLaundry x = house(2, 0, 0, 0);
        for (int i = 0; i < 14; i++) {
            due("cloth(2), refused between", x.cloth(2), NONE);
            due("cloth(" + i % 2 + ")", x.cloth(i % 2), i);
        }
        for (int i = 0; i < 14; i++) due("clothOf(" + i + ", 0)", x.clothOf(i, 0), i % 2);
    }

    // ---- promise 5: thing

    static void p05OfAPerson() {
        says(5, "OF a PERSON");
        KnotLaundry x = new KnotLaundry();
        due("thing(0, 0) of nobody there", x.thing(0, 0), NONE);
        x.person(1);
        x.person(1);
        due("thing(0, 0)", x.thing(0, 0), 0);
        due("thing(1, 0)", x.thing(1, 0), 1);
        String was = all(x);
        for (int person : new int[] {-1, 2, LEAST, MOST}) due("thing(" + person + ", 0)", x.thing(person, 0), NONE);
        same("four refused", was, x);
        due("thingOf(0, 0)", x.thingOf(0, 0), 0);
        due("thingOf(1, 0)", x.thingOf(1, 0), 1);
    }

    static void p05DuesBounds() {
        says(5, "DUE 0 .. 999");
        KnotLaundry x = house(1, 0, 0, 0);
        due("thing(0, 0)", x.thing(0, 0), 0);
        due("thing(0, 999)", x.thing(0, 999), 1);
        String was = all(x);
        for (int day : new int[] {-1, 1000, LEAST, MOST}) due("thing(0, " + day + ")", x.thing(0, day), NONE);
        same("four refused", was, x);
        due("thingOf(0, 1)", x.thingOf(0, 1), 0);
        due("thingOf(1, 1)", x.thingOf(1, 1), 999);
    }

    static void p05TwentyThings() {
        says(5, "NONE if one can't be, or there are twenty.");
        KnotLaundry x = house(1, 0, 19, 5);
        due("look(2)", x.look(2), 19);
        due("thing(0, 7), the twentieth", x.thing(0, 7), 19);
        String was = all(x);
        due("thing(0, 7), the twenty-first", x.thing(0, 7), NONE);
        same("the twenty-first", was, x);
        due("look(2)", x.look(2), 20);
        due("look(3)", x.look(3), (1 << 20) - 1);
        due("thingOf(19, 1)", x.thingOf(19, 1), 7);
        due("thingOf(20, 1)", x.thingOf(20, 1), NONE - 1);
        x.days(10);
        due("thing(0, 7), the others forgotten", x.thing(0, 7), NONE);
    }

    static void p05ThingsAsTheyCome() {
        says(5, "THINGS 0 .. 19 as they come");
        KnotLaundry x = house(2, 0, 0, 0);
        for (int i = 0; i < 20; i++) {
            due("thing(0, 1000), refused between", x.thing(0, 1000), NONE);
            due("thing(" + i % 2 + ", " + (i + 3) + ")", x.thing(i % 2, i + 3), i);
        }
        for (int i = 0; i < 20; i++) due("thingOf(" + i + ", 1)", x.thingOf(i, 1), i + 3);
    }

    // ---- promise 6: set

    /** What is refused for who and v, on both sides of what is taken. */
    static void bounds(KnotLaundry x, int what, int mostWho, int least, int most) {
        due("set(" + what + ", 0, " + least + ")", x.set(what, 0, least), true);
        due("set(" + what + ", " + mostWho + ", " + most + ")", x.set(what, mostWho, most), true);
        String was = all(x);
        for (int v : new int[] {least - 1, most + 1, LEAST, MOST}) {
            due("set(" + what + ", 0, " + v + ")", x.set(what, 0, v), false);
        }
        for (int who : new int[] {-1, mostWho + 1, LEAST, MOST}) {
            due("set(" + what + ", " + who + ", " + least + ")", x.set(what, who, least), false);
        }
        same("all refused", was, x);
    }

    static void p06Mind() {
        says(6, "What 0 MIND of PERSON who");
        KnotLaundry x = house();
        bounds(x, 0, 2, 0, 9);
        due("of(0, 0)", x.of(0, 0), 0);
        due("of(1, 0), not told", x.of(1, 0), 0);
        due("of(2, 0)", x.of(2, 0), 9);
        due("set(0, 0, 9)", x.set(0, 0, 9), true);
        due("of(0, 0)", x.of(0, 0), 9);
    }

    static void p06Worn() {
        says(6, "1 WORN of CLOTH who");
        KnotLaundry x = house();
        bounds(x, 1, 1, 0, 99);
        due("clothOf(0, 1)", x.clothOf(0, 1), 0);
        due("clothOf(1, 1)", x.clothOf(1, 1), 99);
        due("set(1, 1, 0)", x.set(1, 1, 0), true);
        due("clothOf(1, 1)", x.clothOf(1, 1), 0);
    }

    static void p06Due() {
        says(6, "2 DUE of THING who (open)");
        KnotLaundry x = house();
        bounds(x, 2, 3, 0, 999);
        due("thingOf(0, 1)", x.thingOf(0, 1), 0);
        due("thingOf(3, 1)", x.thingOf(3, 1), 999);
        KnotLaundry y = keptAndForgotten();
        String was = all(y);
        due("set(2, 0, 9), kept", y.set(2, 0, 9), false);
        due("set(2, 1, 9), forgotten", y.set(2, 1, 9), false);
        same("two refused", was, y);
        due("set(2, 2, 0), open, to a day that is past", y.set(2, 2, 0), true);
        due("thingOf(2, 1)", y.thingOf(2, 1), 0);
        due("set(2, 2, 1), open and past", y.set(2, 2, 1), true);
        due("days(1)", y.days(1), 0);
        due("thingOf(2, 4), due again", y.thingOf(2, 4), 2);
    }

    static void p06Tight() {
        says(6, "3 TIGHT of THING who (IN a CLOTH; 1 .. 9)");
        KnotLaundry x = house();
        String was = all(x);
        due("set(3, 0, 5), IN none", x.set(3, 0, 5), false);
        same("set(3, 0, 5)", was, x);
        for (int t = 0; t < 4; t++) x.act(0, t, 0);
        bounds(x, 3, 3, 1, 9);
        due("thingOf(0, 3)", x.thingOf(0, 3), 1);
        due("thingOf(3, 3)", x.thingOf(3, 3), 9);
        x.act(3, 0, 0);
        due("thingOf(3, 3), pulled", x.thingOf(3, 3), 8);
        x.set(3, 3, 1);
        x.act(3, 0, 0);
        due("set(3, 3, 1), untied", x.set(3, 3, 1), false);
        due("thingOf(3, 3)", x.thingOf(3, 3), 0);
    }

    static void p06AnotherWhat() {
        says(6, "true; false if one can't be, or another what.");
        KnotLaundry x = house();
        x.act(0, 0, 0);
        String was = all(x);
        for (int what : new int[] {-1, 4, LEAST, MOST}) due("set(" + what + ", 0, 1)", x.set(what, 0, 1), false);
        same("four refused", was, x);
        for (int what = 0; what <= 3; what++) due("set(" + what + ", 0, 1)", x.set(what, 0, 1), true);
        KnotLaundry y = new KnotLaundry();
        for (int what = 0; what <= 3; what++) due("set(" + what + ", 0, 1), nobody there", y.set(what, 0, 1), false);
    }

    // ---- promise 7: act

    static void p07WhichThingAndCloth() {
        says(7, "What 0 to TIE THING who into CLOTH v");
        KnotLaundry x = house();
        String was = all(x);
        for (int thing : new int[] {-1, 4, LEAST, MOST}) due("act(0, " + thing + ", 0)", x.act(0, thing, 0), false);
        for (int cloth : new int[] {-1, 2, LEAST, MOST}) due("act(0, 0, " + cloth + ")", x.act(0, 0, cloth), false);
        same("all refused", was, x);
        due("act(0, 0, 1)", x.act(0, 0, 1), true);
        due("act(0, 3, 0)", x.act(0, 3, 0), true);
        due("thingOf(0, 2)", x.thingOf(0, 2), 1);
        due("thingOf(3, 2)", x.thingOf(3, 2), 0);
    }

    static void p07AnOpenThing() {
        says(7, "an open THING that is IN none");
        KnotLaundry x = keptAndForgotten();
        x.cloth(0);
        String was = all(x);
        due("act(0, 0, 0), kept", x.act(0, 0, 0), false);
        due("act(0, 1, 0), forgotten", x.act(0, 1, 0), false);
        same("two refused", was, x);
        due("act(0, 2, 0), open", x.act(0, 2, 0), true);
        was = all(x);
        due("act(0, 2, 0), in this one", x.act(0, 2, 0), false);
        due("act(0, 2, 1), in another one", x.act(0, 2, 1), false);
        same("two refused", was, x);
        x.act(3, 0, 0);
        due("act(0, 2, 1), untied", x.act(0, 2, 1), true);
        due("thingOf(2, 2)", x.thingOf(2, 2), 1);
    }

    static void p07FewerThanFourKnots() {
        says(7, "into a CLOTH with fewer than 4 KNOTS");
        KnotLaundry x = house(1, 1, 5, 100);
        for (int t = 0; t < 3; t++) x.act(0, t, 0);
        due("act(0, 3, 0), the fourth", x.act(0, 3, 0), true);
        due("clothOf(0, 2)", x.clothOf(0, 2), 4);
        String was = all(x);
        due("act(0, 4, 0), the fifth", x.act(0, 4, 0), false);
        same("the fifth", was, x);
        x.act(3, 0, 0);
        due("clothOf(0, 2), one pulled out", x.clothOf(0, 2), 3);
        due("act(0, 4, 0), the fourth again", x.act(0, 4, 0), true);
        due("clothOf(0, 13)", x.clothOf(0, 13), 4);
    }

    static void p07TiesIsAskedTightNought() {
        says(7, "ties is asked (tight 0, knots without it, open with it)");
        KnotLaundry x = house(1, 1, 4, 100);
        say(x, 0, "ties 1 + knots * 2;");
        for (int t = 0; t < 4; t++) {
            x.act(0, t, 0);
            due("thingOf(" + t + ", 3), knots without it", x.thingOf(t, 3), 1 + 2 * t);
        }
        KnotLaundry y = house(1, 1, 4, 100);
        say(y, 0, "ties 5 + tight;");
        y.act(0, 0, 0);
        due("thingOf(0, 3), tight 0", y.thingOf(0, 3), 5);
        say(y, 0, "ties open * 2;");
        y.act(0, 1, 0);
        due("thingOf(1, 3), open with it", y.thingOf(1, 3), 8);
    }

    static void p07TheLastOfItsKnots() {
        says(7, "it is the last of its KNOTS, so TIGHT");
        KnotLaundry x = house(1, 1, 4, 100);
        for (int t = 3; t >= 0; t--) {
            x.act(0, t, 0);
            due("clothOf(0, " + (13 - t) + ")", x.clothOf(0, 13 - t), t);
            due("clothOf(0, 10)", x.clothOf(0, 10), 3);
        }
    }

    static void p07LendToWhomAndWhat() {
        says(7, "1 to LEND CLOTH who to PERSON v");
        KnotLaundry x = house();
        String was = all(x);
        for (int cloth : new int[] {-1, 2, LEAST, MOST}) due("act(1, " + cloth + ", 2)", x.act(1, cloth, 2), false);
        for (int person : new int[] {-1, 3, LEAST, MOST}) due("act(1, 0, " + person + ")", x.act(1, 0, person), false);
        same("all refused", was, x);
        due("act(1, 0, 2)", x.act(1, 0, 2), true);
        due("act(1, 1, 0)", x.act(1, 1, 0), true);
        due("clothOf(0, 0)", x.clothOf(0, 0), 2);
        due("clothOf(1, 0)", x.clothOf(1, 0), 0);
        due("look(7), no line of it", x.look(7), 0);
    }

    static void p07LendToAnother() {
        says(7, "to LEND (to another than it is WITH)");
        KnotLaundry x = house();
        String was = all(x);
        due("act(1, 1, 1), to whom it is with", x.act(1, 1, 1), false);
        same("act(1, 1, 1)", was, x);
        due("act(1, 1, 0)", x.act(1, 1, 0), true);
        due("act(1, 1, 0), again", x.act(1, 1, 0), false);
        due("act(1, 1, 1), back", x.act(1, 1, 1), true);
        due("look(13)", x.look(13), 2);
    }

    static void p07WashAndPullWhichCloth() {
        says(7, "2 to WASH, 3 to PULL CLOTH who (2, 3: v not asked)");
        KnotLaundry x = house();
        x.act(0, 0, 1);
        x.set(3, 0, 9);
        String was = all(x);
        for (int what = 2; what <= 3; what++) {
            for (int cloth : new int[] {-1, 2, LEAST, MOST}) {
                due("act(" + what + ", " + cloth + ", 0)", x.act(what, cloth, 0), false);
            }
        }
        same("all refused", was, x);
        for (int v : new int[] {LEAST, -1, MOST}) {
            due("act(2, 0, " + v + ")", x.act(2, 0, v), true);
            due("act(3, 1, " + v + ")", x.act(3, 1, v), true);
        }
        due("clothOf(0, 1)", x.clothOf(0, 1), 3);
        due("thingOf(0, 3)", x.thingOf(0, 3), 6);
    }

    static void p07WornAtMost() {
        says(7, "WORN one more (99 at most)");
        KnotLaundry x = house();
        x.set(1, 0, 98);
        due("act(2, 0, 0)", x.act(2, 0, 0), true);
        due("clothOf(0, 1)", x.clothOf(0, 1), 99);
        due("act(2, 0, 0)", x.act(2, 0, 0), true);
        due("clothOf(0, 1)", x.clothOf(0, 1), 99);
        due("look(13), it was a washing", x.look(13), 2);
        // Slips is asked behind that.
        KnotLaundry y = slipping(DRAWS_563, "slips 1000 when worn = 1; slips 0;");
        y.act(2, 0, 0);
        due("look(5), worn 1 then", y.look(5), 0);
        KnotLaundry z = slipping(DRAWS_563, "slips 1000 when worn = 1; slips 0;");
        z.set(1, 0, 1);
        z.act(2, 0, 0);
        due("look(5), worn 2 then", z.look(5), 1);
    }

    static void p07SlipsAboveNought() {
        says(7, "is it above 0, a DRAW of 1000");
        KnotLaundry x = slipping(DRAWS_563, "slips 0;");
        x.act(2, 0, 0);
        due("look(8), slips 0: no draw", x.look(8), DRAWS_563);
        due("look(5)", x.look(5), 1);
        say(x, 0, "slips 1;");
        x.act(2, 0, 0);
        due("look(8), slips 1: a draw", x.look(8), BEHIND_563);
        due("look(5)", x.look(5), 1);
        KnotLaundry y = slipping(DRAWS_563, "slips 1000;");
        y.act(2, 0, 0);
        due("look(8), slips 1000: a draw, too", y.look(8), BEHIND_563);
        due("look(5)", y.look(5), 0);
        KnotLaundry z = house();
        z.act(2, 0, 0);
        due("look(8), no knots: no draw", z.look(8), 0);
    }

    static void p07BelowItItSlips() {
        says(7, "below it it slips: it is IN none");
        KnotLaundry x = slipping(DRAWS_563, "slips 563;");
        x.act(2, 0, 0);
        due("thingOf(0, 2), 563 drawn", x.thingOf(0, 2), 0);
        due("thingOf(0, 3)", x.thingOf(0, 3), 1);
        due("look(7)", x.look(7), 1);
        KnotLaundry y = slipping(DRAWS_563, "slips 564;");
        y.act(2, 0, 0);
        due("thingOf(0, 2), 563 drawn", y.thingOf(0, 2), NONE);
        due("thingOf(0, 3)", y.thingOf(0, 3), 0);
        due("thingOf(0, 4), open yet", y.thingOf(0, 4), 0);
        due("clothOf(0, 2)", y.clothOf(0, 2), 0);
        line(y, 1, 0, 1, 0, 0);
        // 0 is below 1, and 999 is not below 999.
        KnotLaundry z = slipping(457, "slips 1;");
        z.act(2, 0, 0);
        due("look(5), 0 drawn, slips 1", z.look(5), 0);
        KnotLaundry u = slipping(2756, "slips 999;");
        u.act(2, 0, 0);
        due("look(5), 999 drawn, slips 999", u.look(5), 1);
        u.state(2756);
        say(u, 0, "slips 1000;");
        u.act(2, 0, 0);
        due("look(5), 999 drawn, slips 1000", u.look(5), 0);
    }

    static void p07KnotsAsManyAsAreThereYet() {
        says(7, "slips is asked (knots as many as are there yet)");
        KnotLaundry x = fullCloth();
        say(x, 0, "slips 1000 when knots > 2; slips 0;");
        x.act(2, 0, 0);
        due("clothOf(0, 2), till two are left", x.clothOf(0, 2), 2);
        due("clothOf(0, 10)", x.clothOf(0, 10), 2);
        due("clothOf(0, 11)", x.clothOf(0, 11), 3);
        due("clothOf(0, 12)", x.clothOf(0, 12), NONE);
        KnotLaundry y = fullCloth();
        say(y, 0, "slips 1000 when knots < 4; slips 0;");
        y.act(2, 0, 0);
        due("clothOf(0, 2), none went first", y.clothOf(0, 2), 4);
        KnotLaundry z = fullCloth();
        say(z, 0, "slips 1000;");
        z.act(2, 0, 0);
        due("clothOf(0, 2), all slip", z.clothOf(0, 2), 0);
        due("look(3), all are open yet", z.look(3), 31);
    }

    static void p07KnotByKnot() {
        says(7, "then KNOT by KNOT in their order");
        // Draws 563, 577, 494, 947: with 564 the first and the third slip, and only these.
        KnotLaundry x = house(1, 1, 4, 100);
        for (int t = 3; t >= 0; t--) x.act(0, t, 0);
        say(x, 0, "slips 564;");
        x.act(2, 0, 0);
        due("clothOf(0, 2)", x.clothOf(0, 2), 2);
        due("clothOf(0, 10)", x.clothOf(0, 10), 2);
        due("clothOf(0, 11)", x.clothOf(0, 11), 0);
        due("look(8), four draws", x.look(8), -1426500812);
        line(x, 4, 0, 1, 3, 0);
        line(x, 5, 0, 1, 1, 0);
        due("look(7)", x.look(7), 6);
    }

    static void p07PullTheLastKnot() {
        says(7, "its last KNOT: TIGHT one less, at 0 it is untied: IN none");
        KnotLaundry x = house(1, 1, 3, 100);
        for (int t = 2; t >= 0; t--) x.act(0, t, 0);
        x.set(3, 0, 2);
        due("act(3, 0, 0)", x.act(3, 0, 0), true);
        due("thingOf(0, 3)", x.thingOf(0, 3), 1);
        due("thingOf(0, 2), at 1 it holds", x.thingOf(0, 2), 0);
        due("thingOf(2, 3), the first is not pulled", x.thingOf(2, 3), 1);
        due("act(3, 0, 0)", x.act(3, 0, 0), true);
        due("thingOf(0, 3)", x.thingOf(0, 3), 0);
        due("thingOf(0, 2), at 0 it is untied", x.thingOf(0, 2), NONE);
        due("clothOf(0, 2)", x.clothOf(0, 2), 2);
        due("clothOf(0, 11)", x.clothOf(0, 11), 1);
        due("clothOf(0, 12)", x.clothOf(0, 12), NONE);
        due("thingOf(0, 4), open yet", x.thingOf(0, 4), 0);
    }

    static void p07ALineAtNoughtAlone() {
        says(7, "a line at 0 alone");
        KnotLaundry x = house();
        x.act(0, 2, 1);
        x.set(3, 2, 2);
        x.act(3, 1, 0);
        due("look(7), at 1 no line", x.look(7), 1);
        x.act(3, 1, 0);
        due("look(7), at 0 a line", x.look(7), 2);
        line(x, 1, 0, 4, 2, 1);
    }

    static void p07PullIfItHasKnots() {
        says(7, "to PULL (it has KNOTS)");
        KnotLaundry x = house();
        String was = all(x);
        due("act(3, 0, 0), no knots", x.act(3, 0, 0), false);
        same("act(3, 0, 0)", was, x);
        x.act(0, 0, 0);
        x.set(3, 0, 1);
        due("act(3, 0, 0), one knot", x.act(3, 0, 0), true);
        due("act(3, 0, 0), none is left", x.act(3, 0, 0), false);
        due("act(2, 0, 0), but it can be washed", x.act(2, 0, 0), true);
    }

    static void p07AnotherWhat() {
        says(7, "true; false if it can't be, or another what.");
        KnotLaundry x = house();
        x.act(0, 0, 0);
        String was = all(x);
        for (int what : new int[] {-1, 4, LEAST, MOST}) due("act(" + what + ", 1, 1)", x.act(what, 1, 1), false);
        same("four refused", was, x);
        due("act(0, 1, 1)", x.act(0, 1, 1), true);
        due("act(3, 1, 1)", x.act(3, 1, 1), true);
        KnotLaundry y = new KnotLaundry();
        for (int what = 0; what <= 3; what++) due("act(" + what + ", 0, 0), nobody there", y.act(what, 0, 0), false);
        due("look(13)", y.look(13), 0);
    }

    // ---- promise 8: days

    static void p08OneToSixtyDays() {
        says(8, "DAYS go by (1 .. 60)");
        KnotLaundry x = house();
        String was = all(x);
        for (int n : new int[] {0, 61, -1, LEAST, MOST}) due("days(" + n + ")", x.days(n), NONE);
        same("five refused", was, x);
        due("days(1)", x.days(1), 0);
        due("look(6)", x.look(6), 1);
        due("days(60)", x.days(60), 0);
        due("look(6)", x.look(6), 61);
    }

    static void p08HowManyWereKept() {
        says(8, "how many THINGS were kept.");
        KnotLaundry x = house();
        for (int t = 0; t < 4; t++) x.act(0, t, t < 2 ? t : 0);
        // Thing 0 is due on day 2 and thing 3 on day 9, each in its owner's cloth 0; thing 1 on day 3, in its owner's, too.
        say(x, 0, "tells 0;");
        due("days(2), none is due on days 0 and 1", x.days(2), 0);
        due("days(1), day 2", x.days(1), 1);
        due("days(1), day 3: one kept, one forgotten", x.days(1), 1);
        due("days(5), days 4 .. 8", x.days(5), 0);
        due("days(1), day 9", x.days(1), 1);
        due("look(4)", x.look(4), 11);
    }

    static void p08NoDayAboveTheLast() {
        says(8, "NONE, and nothing is done, if one can't be, or DAY would be above 9999.");
        KnotLaundry x = house(1, 1, 1, 0);
        x.act(0, 0, 0);
        daysTill(x, 9960);
        String was = all(x);
        due("days(40)", x.days(40), NONE);
        due("days(60)", x.days(60), NONE);
        same("two refused", was, x);
        due("days(39)", x.days(39), 0);
        due("look(6)", x.look(6), 9999);
        was = all(x);
        due("days(1)", x.days(1), NONE);
        due("days(60)", x.days(60), NONE);
        same("two refused", was, x);
        due("undo()", x.undo(), true);
        due("look(6)", x.look(6), 9998);
        due("days(2)", x.days(2), NONE);
        due("days(1)", x.days(1), 0);
        due("look(6)", x.look(6), 9999);
    }

    static void p08MindsForTheDay() {
        says(8, "(a) Line by line of MINDS for it: MIND is N.");
        KnotLaundry x = house();
        taken(x, 2, "on 0 person 0 mind 9; on 2 person 0 mind 0; on 2 person 1 mind 5; on 2 person 1 mind 6; on 999 person 2 mind 1;", 5);
        due("of(0, 0), before its day", x.of(0, 0), 4);
        x.days(1);
        due("of(0, 0), day 0 went by", x.of(0, 0), 9);
        x.days(1);
        due("of(0, 0), day 1 went by", x.of(0, 0), 9);
        due("of(1, 0), day 1 went by", x.of(1, 0), 0);
        x.days(1);
        due("of(0, 0), day 2 went by", x.of(0, 0), 0);
        due("of(1, 0), the later line is the last word", x.of(1, 0), 6);
        x.set(0, 0, 3);
        daysTill(x, 999);
        due("of(0, 0), no day comes twice", x.of(0, 0), 3);
        due("of(2, 0), day 998 went by", x.of(2, 0), 9);
        x.days(1);
        due("of(2, 0), day 999 went by", x.of(2, 0), 1);
    }

    static void p08DeedsForTheDay() {
        says(8, "(b) Line by line of DEEDS for it");
        KnotLaundry x = house();
        taken(x, 1, "on 0 wash 0; on 2 lend 1 2; on 2 wash 0; on 999 wash 1;", 4);
        due("clothOf(0, 1), before its day", x.clothOf(0, 1), 0);
        x.days(1);
        due("clothOf(0, 1), day 0 went by", x.clothOf(0, 1), 1);
        x.days(1);
        due("clothOf(0, 1), day 1 went by", x.clothOf(0, 1), 1);
        due("clothOf(1, 0), day 1 went by", x.clothOf(1, 0), 1);
        x.days(1);
        due("clothOf(0, 1), day 2 went by", x.clothOf(0, 1), 2);
        due("clothOf(1, 0), day 2 went by", x.clothOf(1, 0), 2);
        daysTill(x, 999);
        due("clothOf(1, 1), day 998 went by", x.clothOf(1, 1), 0);
        x.days(1);
        due("clothOf(1, 1), day 999 went by", x.clothOf(1, 1), 1);
        due("clothOf(0, 1), no day comes twice", x.clothOf(0, 1), 2);
    }

    static void p08MindsAheadOfDeeds() {
        says(8, "A DAY. (a)");
        KnotLaundry x = house();
        say(x, 1, "on 0 tie 0 0;");
        say(x, 2, "on 0 person 0 mind 8;");
        x.days(1);
        due("thingOf(0, 3), tied by the new mind", x.thingOf(0, 3), 5);
        KnotLaundry y = house();
        say(y, 1, "on 0 tie 0 0;");
        say(y, 2, "on 1 person 0 mind 8;");
        y.days(1);
        due("thingOf(0, 3), the new mind comes a day later", y.thingOf(0, 3), 3);
    }

    static void p08TieDeedsThatCantBe() {
        says(8, "tie: an open THING that is IN none, into a CLOTH with fewer than 4 KNOTS");
        KnotLaundry x = house(1, 2, 6, 100);
        taken(x, 1, "on 0 tie 0 0; on 0 tie 0 1; on 0 tie 1 0; on 0 tie 2 0; on 0 tie 3 0; on 0 tie 4 0; on 0 tie 5 1;", 7);
        due("days(1)", x.days(1), 0);
        due("thingOf(0, 2), it was in one already", x.thingOf(0, 2), 0);
        due("clothOf(0, 13), the fourth", x.clothOf(0, 13), 3);
        due("thingOf(4, 2), the fifth", x.thingOf(4, 2), NONE);
        due("thingOf(4, 3), the fifth", x.thingOf(4, 3), 0);
        due("thingOf(5, 2), the deeds go on behind it", x.thingOf(5, 2), 1);
        due("look(7)", x.look(7), 5);
        KnotLaundry y = keptAndForgotten();
        say(y, 1, "on 1 tie 0 0; on 1 tie 1 0; on 1 tie 2 0;");
        y.days(1);
        due("thingOf(0, 2), kept", y.thingOf(0, 2), NONE);
        due("thingOf(1, 2), forgotten", y.thingOf(1, 2), NONE);
        due("thingOf(2, 2), open", y.thingOf(2, 2), 0);
    }

    static void p08LendDeeds() {
        says(8, "lend: the CLOTH is WITH that PERSON");
        KnotLaundry x = house();
        say(x, 1, "on 0 lend 0 0; on 0 lend 1 2; on 1 lend 1 1;");
        x.days(1);
        due("clothOf(0, 0), to whom it is with", x.clothOf(0, 0), 0);
        due("clothOf(1, 0)", x.clothOf(1, 0), 2);
        x.days(1);
        due("clothOf(1, 0)", x.clothOf(1, 0), 1);
        due("look(7)", x.look(7), 0);
    }

    static void p08PullDeedsWithoutKnots() {
        says(8, "(no KNOTS: nothing; a line at 0 alone)");
        KnotLaundry x = house();
        x.act(0, 3, 0);
        x.set(3, 3, 2);
        say(x, 1, "on 0 pull 1; on 0 pull 0; on 1 pull 0; on 2 pull 0;");
        due("days(1)", x.days(1), 0);
        due("clothOf(1, 2), none there", x.clothOf(1, 2), 0);
        due("thingOf(3, 3)", x.thingOf(3, 3), 1);
        due("look(7), at 1 no line", x.look(7), 1);
        x.days(1);
        due("thingOf(3, 2)", x.thingOf(3, 2), NONE);
        due("look(7), at 0 a line", x.look(7), 2);
        line(x, 1, 1, 4, 3, 0);
        x.set(2, 0, 50);
        x.set(2, 1, 50);
        x.set(2, 2, 50);
        x.days(1);
        due("look(7), none is left", x.look(7), 2);
        due("clothOf(0, 2)", x.clothOf(0, 2), 0);
    }

    static void p08WashDeedsAtMost() {
        says(8, "wash: WORN one more (99 at most)");
        KnotLaundry x = house();
        x.set(1, 0, 98);
        say(x, 1, "on 0 wash 0; on 1 wash 0;");
        x.days(1);
        due("clothOf(0, 1)", x.clothOf(0, 1), 99);
        x.days(1);
        due("clothOf(0, 1)", x.clothOf(0, 1), 99);
    }

    static void p08DueOnThisDay() {
        says(8, "(c) THING by THING that is open and DUE on this DAY");
        KnotLaundry x = house();
        x.days(2);
        due("thingOf(0, 4), the day before", x.thingOf(0, 4), 0);
        x.days(1);
        due("thingOf(0, 4), its day went by", x.thingOf(0, 4), 2);
        due("thingOf(1, 4), a day later", x.thingOf(1, 4), 0);
        x.days(1);
        due("thingOf(1, 4)", x.thingOf(1, 4), 2);
        due("thingOf(2, 4)", x.thingOf(2, 4), 2);
        due("of(0, 2), none is settled twice", x.of(0, 2), 1);
        // Thing by thing as they are numbered.
        line(x, 0, 2, 3, 0, NONE);
        line(x, 1, 3, 3, 1, NONE);
        line(x, 2, 3, 3, 2, NONE);
        KnotLaundry y = house(1, 0, 1, 999);
        daysTill(y, 999);
        due("thingOf(0, 4), day 998 went by", y.thingOf(0, 4), 0);
        y.days(1);
        due("thingOf(0, 4), day 999 went by", y.thingOf(0, 4), 2);
    }

    static void p08SlippedJustAhead() {
        says(8, "is it IN none (slipped just ahead, too): forgotten");
        KnotLaundry x = house(1, 1, 3, 0);
        say(x, 0, "slips 1000 when tight < 2; slips 0;");
        x.act(0, 0, 0);
        x.act(0, 1, 0);
        x.set(3, 0, 1);
        x.set(3, 1, 2);
        say(x, 1, "on 0 wash 0;");
        due("days(1)", x.days(1), 1);
        due("thingOf(0, 4), slipped on this day", x.thingOf(0, 4), 2);
        due("thingOf(1, 4), in its owner's cloth yet", x.thingOf(1, 4), 1);
        due("thingOf(2, 4), never tied", x.thingOf(2, 4), 2);
        due("look(8), one draw, of the slip", x.look(8), BEHIND_563);
        line(x, 2, 0, 1, 0, 0);
        line(x, 3, 0, 3, 0, NONE);
        line(x, 4, 0, 2, 1, 0);
        line(x, 5, 0, 3, 2, NONE);
    }

    static void p08UntiedJustAhead() {
        says(8, "Is it WITH whom it is OF: kept.");
        KnotLaundry x = house();
        say(x, 0, "tells 0;");
        x.act(0, 0, 0);
        x.act(0, 1, 0);
        x.set(2, 1, 2);
        due("days(3)", x.days(3), 1);
        due("thingOf(0, 4), with its owner", x.thingOf(0, 4), 1);
        due("thingOf(1, 4), with another", x.thingOf(1, 4), 2);
        due("look(8), no draw", x.look(8), 0);
        // Lent back just ahead it is with its owner; pulled out just ahead it is in none.
        KnotLaundry y = house();
        say(y, 0, "tells 0;");
        y.act(0, 0, 1);
        say(y, 1, "on 2 lend 1 0;");
        due("days(3), lent back", y.days(3), 1);
        KnotLaundry z = house();
        z.act(0, 0, 0);
        z.set(3, 0, 1);
        say(z, 1, "on 2 pull 0;");
        due("days(3), pulled out", z.days(3), 0);
        due("thingOf(0, 4)", z.thingOf(0, 4), 2);
    }

    static void p08TellsAboveNought() {
        says(8, "Else tells is asked (it is open yet), is it above 0, a DRAW of 1000");
        KnotLaundry x = lentAway();
        say(x, 0, "tells 0;");
        due("days(3)", x.days(3), 0);
        due("look(8), tells 0: no draw", x.look(8), 0);
        due("thingOf(0, 4)", x.thingOf(0, 4), 2);
        KnotLaundry y = lentAway();
        say(y, 0, "tells 1;");
        due("days(3)", y.days(3), 0);
        due("look(8), tells 1: a draw", y.look(8), BEHIND_563);
        KnotLaundry z = lentAway();
        say(z, 0, "tells 1000 when open = 4; tells 0;");
        due("days(3), open with it", z.days(3), 1);
        KnotLaundry u = lentAway();
        say(u, 0, "tells 1000 when open < 4; tells 0;");
        due("days(3), not less", u.days(3), 0);
        due("look(8)", u.look(8), 0);
    }

    static void p08BelowItKept() {
        says(8, "below it kept; not: forgotten.");
        KnotLaundry x = lentAway();
        say(x, 0, "tells 563;");
        due("days(3), 563 drawn", x.days(3), 0);
        due("thingOf(0, 4)", x.thingOf(0, 4), 2);
        KnotLaundry y = lentAway();
        say(y, 0, "tells 564;");
        due("days(3), 563 drawn", y.days(3), 1);
        due("thingOf(0, 4)", y.thingOf(0, 4), 1);
        KnotLaundry z = lentAway();
        say(z, 0, "tells 1000;");
        z.state(2756);
        due("days(3), 999 drawn", z.days(3), 1);
        KnotLaundry u = lentAway();
        say(u, 0, "tells 999;");
        u.state(2756);
        due("days(3), 999 drawn", u.days(3), 0);
        KnotLaundry v = lentAway();
        say(v, 0, "tells 1;");
        v.state(457);
        due("days(3), 0 drawn", v.days(3), 1);
    }

    static void p08KeptOneMore() {
        says(8, "Kept: IS 1, KEPT of whom it is OF one more; forgotten: IS 2, FORGOT one more; then it is IN none.");
        KnotLaundry x = house();
        say(x, 0, "tells 1000 when forgot = 0; tells 0;");
        for (int t = 0; t < 4; t++) {
            x.act(0, t, 1);
            x.set(2, t, 2);
        }
        due("days(3)", x.days(3), 4);
        due("of(0, 1), two of him", x.of(0, 1), 2);
        due("of(1, 1)", x.of(1, 1), 1);
        due("of(2, 1), whom it is of, not whom it is with", x.of(2, 1), 1);
        due("clothOf(1, 2), in none", x.clothOf(1, 2), 0);
        due("thingOf(2, 2), in none", x.thingOf(2, 2), NONE);
        x.thing(0, 3);
        x.days(1);
        due("of(0, 2), forgotten", x.of(0, 2), 1);
        due("of(0, 1)", x.of(0, 1), 2);
        due("thingOf(4, 4)", x.thingOf(4, 4), 2);
        due("look(4)", x.look(4), 15);
        // The law sees what was kept just ahead on the same day.
        KnotLaundry y = house(2, 1, 2, 0);
        y.act(1, 0, 1);
        say(y, 0, "tells 1000 when kept = 0; tells 0;");
        y.act(0, 0, 0);
        y.act(0, 1, 0);
        due("days(1), the first is kept, the second not", y.days(1), 1);
        due("look(4)", y.look(4), 1);
    }

    static void p08KnotsBehindOneThatWent() {
        says(8, "then it is IN none. DAY is one more.");
        KnotLaundry x = fullCloth();
        x.set(2, 1, 0);
        x.days(1);
        due("clothOf(0, 2)", x.clothOf(0, 2), 3);
        due("clothOf(0, 10)", x.clothOf(0, 10), 0);
        due("clothOf(0, 11)", x.clothOf(0, 11), 2);
        due("clothOf(0, 12)", x.clothOf(0, 12), 3);
        due("clothOf(0, 13)", x.clothOf(0, 13), NONE);
        due("look(6)", x.look(6), 1);
        due("act(0, 4, 0), there is room again", x.act(0, 4, 0), true);
    }

    static void p08PastOnesStayOpen() {
        says(8, "(Those of a DAY that is past stay open.)");
        KnotLaundry x = house();
        x.set(2, 0, 1);
        x.days(1);
        x.thing(0, 0);
        x.act(0, 4, 0);
        due("days(1), day 1: its own alone is settled", x.days(1), 0);
        due("thingOf(0, 4), due on it", x.thingOf(0, 4), 2);
        due("thingOf(4, 4), due the day before", x.thingOf(4, 4), 0);
        x.days(60);
        due("thingOf(4, 4)", x.thingOf(4, 4), 0);
        due("thingOf(4, 2), tied yet", x.thingOf(4, 2), 0);
        due("of(0, 3), left yet", x.of(0, 3), 1);
    }

    static void p08TightIsNoughtInNone() {
        says(8, "Of what is IN none TIGHT is 0.");
        KnotLaundry x = house();
        say(x, 0, "ties 9; slips 1000; tells 0;");
        for (int t = 0; t < 4; t++) x.act(0, t, t < 2 ? 0 : 1);
        for (int t = 0; t < 4; t++) due("thingOf(" + t + ", 3), tied", x.thingOf(t, 3), 9);
        x.act(2, 1, 0);
        due("thingOf(2, 3), slipped", x.thingOf(2, 3), 0);
        due("thingOf(3, 3), slipped", x.thingOf(3, 3), 0);
        x.days(4);
        due("thingOf(0, 3), kept", x.thingOf(0, 3), 0);
        due("thingOf(0, 4)", x.thingOf(0, 4), 1);
        due("thingOf(1, 3), forgotten", x.thingOf(1, 3), 0);
        due("thingOf(1, 4)", x.thingOf(1, 4), 2);
    }

    // ---- promise 13: of

    static void p13WhatAndWho() {
        says(13, "NONE if there is none such, or another what.");
        KnotLaundry x = house();
        for (int person : new int[] {-1, 3, LEAST, MOST}) {
            for (int what = 0; what <= 6; what++) due("of(" + person + ", " + what + ")", x.of(person, what), NONE);
        }
        due("of(0, 0), the first", x.of(0, 0), 4);
        due("of(2, 0), the last", x.of(2, 0), 9);
        for (int what : new int[] {-1, 7, LEAST, MOST}) due("of(0, " + what + ")", x.of(0, what), NONE);
        due("of(2, 6), the last what", x.of(2, 6), 0);
    }

    static void p13Left() {
        says(13, "how many THINGS OF him are open, whatever their DUE");
        KnotLaundry x = house();
        due("of(0, 3)", x.of(0, 3), 2);
        due("of(2, 3)", x.of(2, 3), 1);
        x.days(3);
        due("of(0, 3), one was forgotten", x.of(0, 3), 1);
        x.thing(0, 0);
        due("of(0, 3), one that is past", x.of(0, 3), 2);
        x.days(60);
        due("of(0, 3), that alone", x.of(0, 3), 1);
        due("of(1, 3), none", x.of(1, 3), 0);
    }

    static void p13LeastDue() {
        says(13, "the least DUE of these that is DAY at least (NONE)");
        KnotLaundry x = house();
        x.person(1);
        due("of(3, 4), nothing of him", x.of(3, 4), NONE);
        due("of(0, 4)", x.of(0, 4), 2);
        x.set(2, 0, 1);
        x.days(1);
        due("of(0, 4), due on the day itself", x.of(0, 4), 1);
        x.set(2, 0, 0);
        due("of(0, 4), due the day before", x.of(0, 4), 9);
        x.set(2, 3, 0);
        due("of(0, 4), both are past", x.of(0, 4), NONE);
        due("of(0, 3), but left", x.of(0, 3), 2);
        x.set(2, 0, 999);
        due("of(0, 4)", x.of(0, 4), 999);
        KnotLaundry y = keptAndForgotten();
        y.set(2, 2, 1);
        y.days(1);
        due("of(0, 4), none is open", y.of(0, 4), NONE);
        KnotLaundry z = house(1, 0, 1, 0);
        due("of(0, 4), on day 0", z.of(0, 4), 0);
    }

    static void p13ClothsWithHim() {
        says(13, "5 the CLOTHS WITH him (a set)");
        KnotLaundry x = house(2, 14, 0, 0);
        due("of(0, 5), all fourteen", x.of(0, 5), (1 << 14) - 1);
        due("of(1, 5), none", x.of(1, 5), 0);
        x.act(1, 13, 1);
        x.act(1, 0, 1);
        due("of(0, 5)", x.of(0, 5), (1 << 13) - 2);
        due("of(1, 5), the first and the last", x.of(1, 5), 1 << 13 | 1);
    }

    static void p13WhomHeKnows() {
        says(13, "6 whom he knows (a set)");
        KnotLaundry x = house(12, 0, 0, 0);
        due("of(0, 6), nobody", x.of(0, 6), 0);
        say(x, 3, "person 11 knows 0; person 0 knows 10; person 1 knows 0;");
        due("of(0, 6)", x.of(0, 6), 1 << 11 | 1 << 10 | 1 << 1);
        due("of(11, 6)", x.of(11, 6), 1);
        due("of(10, 6)", x.of(10, 6), 1);
        due("of(9, 6)", x.of(9, 6), 0);
    }

    // ---- promise 14: clothOf

    static void p14WhatAndWhich() {
        says(14, "NONE - 1 if there is none such, or another what.");
        KnotLaundry x = house();
        for (int cloth : new int[] {-1, 2, LEAST, MOST}) {
            for (int what : new int[] {0, 1, 2, 10, 13}) due("clothOf(" + cloth + ", " + what + ")", x.clothOf(cloth, what), -2);
        }
        for (int what : new int[] {-1, 3, 9, 14, LEAST, MOST}) due("clothOf(0, " + what + ")", x.clothOf(0, what), -2);
        due("clothOf(1, 0), the last", x.clothOf(1, 0), 1);
        due("clothOf(1, 2), the last what of these", x.clothOf(1, 2), 0);
    }

    static void p14ItsKnots() {
        says(14, "10 + i its i-th KNOT (0 .. 3; NONE: none such)");
        KnotLaundry x = house(1, 1, 4, 100);
        for (int n = 0; n <= 4; n++) {
            for (int i = 0; i < 4; i++) due("clothOf(0, " + (10 + i) + ") of " + n, x.clothOf(0, 10 + i), i < n ? 3 - i : NONE);
            x.act(0, 3 - n, 0);
        }
        due("clothOf(0, 9)", x.clothOf(0, 9), -2);
        due("clothOf(0, 14)", x.clothOf(0, 14), -2);
    }

    // ---- promise 15: thingOf

    static void p15WhatAndWhich() {
        says(15, "NONE - 1 if there is none such, or another what.");
        KnotLaundry x = house();
        for (int thing : new int[] {-1, 4, LEAST, MOST}) {
            for (int what : new int[] {0, 2, 4, 5, 6, 20}) due("thingOf(" + thing + ", " + what + ")", x.thingOf(thing, what), -2);
        }
        for (int what : new int[] {-1, 7, 19, 22, LEAST, MOST}) due("thingOf(0, " + what + ")", x.thingOf(0, what), -2);
        due("thingOf(3, 0), the last", x.thingOf(3, 0), 0);
        due("thingOf(3, 21), into the last cloth", x.thingOf(3, 21), 1);
        x.cloth(2);
        due("thingOf(3, 22), into a later one", x.thingOf(3, 22), 5);
    }

    static void p15InNone() {
        says(15, "(5, 6: IN none: NONE)");
        KnotLaundry x = house();
        say(x, 0, "slips 7; tells 8;");
        due("thingOf(0, 5)", x.thingOf(0, 5), NONE);
        due("thingOf(0, 6)", x.thingOf(0, 6), NONE);
        x.act(0, 0, 0);
        due("thingOf(0, 5), tied", x.thingOf(0, 5), 7);
        due("thingOf(0, 6), tied", x.thingOf(0, 6), 8);
        x.days(3);
        due("thingOf(0, 5), kept", x.thingOf(0, 5), NONE);
        due("thingOf(0, 6), kept", x.thingOf(0, 6), NONE);
    }

    static void p15TiesWhatever() {
        says(15, "20 + c ties into CLOTH c (IN whatever, c full or not; tight, knots as they are)");
        KnotLaundry x = house(1, 2, 5, 100);
        say(x, 0, "ties 1 + knots + tight;");
        for (int t = 0; t < 4; t++) {
            due("thingOf(4, 20), " + t + " knots", x.thingOf(4, 20), 1 + t);
            x.act(0, t, 0);
        }
        due("thingOf(4, 20), full", x.thingOf(4, 20), 5);
        due("thingOf(4, 21)", x.thingOf(4, 21), 1);
        due("thingOf(0, 20), IN this one, tight 1", x.thingOf(0, 20), 6);
        due("thingOf(3, 20), IN this one, tight 4", x.thingOf(3, 20), 9);
        due("thingOf(3, 21), IN another one, tight 4", x.thingOf(3, 21), 5);
        KnotLaundry y = keptAndForgotten();
        due("thingOf(0, 20), kept", y.thingOf(0, 20), 1);
        due("thingOf(1, 20), forgotten", y.thingOf(1, 20), 1);
    }

    // ---- promise 16: book

    static void p16WhatAndWhich() {
        says(16, "NONE - 1 if there is none such, or another what.");
        KnotLaundry x = house();
        due("book(0, 0), none yet", x.book(0, 0), -2);
        x.act(0, 0, 0);
        line(x, 0, 0, 0, 0, 3);
        for (int i : new int[] {-1, 1, LEAST, MOST}) due("book(" + i + ", 0)", x.book(i, 0), -2);
        for (int what : new int[] {-1, 4, LEAST, MOST}) due("book(0, " + what + ")", x.book(0, what), -2);
        x.act(0, 1, 0);
        due("book(1, 2)", x.book(1, 2), 1);
        x.undo();
        due("book(1, 2), undone", x.book(1, 2), -2);
    }

    static void p16AHundredAndFiftyLines() {
        says(16, "THE BOOK (150 lines; no more then)");
        KnotLaundry x = house(1, 1, 2, 100);
        // Tied and pulled out: two lines each time.
        for (int i = 0; i < 74; i++) {
            x.act(0, 0, 0);
            x.act(3, 0, 0);
        }
        x.act(0, 0, 0);
        due("look(7)", x.look(7), 149);
        due("book(149, 0)", x.book(149, 0), -2);
        due("act(3, 0, 0), the 150th", x.act(3, 0, 0), true);
        due("look(7)", x.look(7), 150);
        line(x, 149, 0, 4, 0, 0);
        due("act(0, 1, 0), done without a line", x.act(0, 1, 0), true);
        due("thingOf(1, 2)", x.thingOf(1, 2), 0);
        due("look(7)", x.look(7), 150);
        due("book(150, 0)", x.book(150, 0), -2);
        line(x, 149, 0, 4, 0, 0);
        line(x, 0, 0, 0, 0, 1);
        due("undo()", x.undo(), true);
        due("look(7), the line was not of it", x.look(7), 150);
        due("undo()", x.undo(), true);
        due("look(7), this one was", x.look(7), 149);
        due("act(3, 0, 0)", x.act(3, 0, 0), true);
        due("look(7)", x.look(7), 150);
        x.set(2, 0, 0);
        due("days(1), settled without a line", x.days(1), 0);
        due("thingOf(0, 4)", x.thingOf(0, 4), 2);
        due("look(7)", x.look(7), 150);
    }

    static void p16HowMuch() {
        says(16, "how much (0: TIGHT; 1, 4: the CLOTH; 2, 3: whom the CLOTH was WITH; IN none: NONE)");
        KnotLaundry x = house();
        say(x, 0, "ties 9; slips 1000; tells 1000 when mind = 4; tells 0;");
        x.act(0, 1, 1);
        line(x, 0, 0, 0, 1, 9);
        x.act(2, 1, 0);
        line(x, 1, 0, 1, 1, 1);
        x.act(0, 2, 1);
        x.set(3, 2, 1);
        x.act(3, 1, 0);
        line(x, 3, 0, 4, 2, 1);
        x.act(0, 2, 0);
        x.act(0, 0, 1);
        x.days(4);
        line(x, 6, 2, 3, 0, 1);
        line(x, 7, 3, 3, 1, NONE);
        line(x, 8, 3, 2, 2, 0);
        due("look(7)", x.look(7), 9);
    }

    static void p16TheDayOfALine() {
        says(16, "DAY, what (0 tied, 1 slipped, 2 kept, 3 forgotten, 4 untied), which THING");
        KnotLaundry x = house(1, 1, 20, 999);
        x.act(0, 19, 0);
        line(x, 0, 0, 0, 19, 1);
        daysTill(x, 999);
        x.act(0, 0, 0);
        line(x, 1, 999, 0, 0, 1);
        x.days(1);
        due("look(7)", x.look(7), 22);
        line(x, 2, 999, 2, 0, 0);
        line(x, 3, 999, 3, 1, NONE);
        line(x, 21, 999, 2, 19, 0);
        daysTill(x, 9999);
        x.thing(0, 0);
        due("look(7)", x.look(7), 22);
    }

    // ---- promise 17: goes

    static void p17OneToSixtyDays() {
        says(17, "GOES for n (1 .. 60) DAYS");
        KnotLaundry x = house(1, 1, 3, 0);
        x.set(2, 1, 59);
        x.set(2, 2, 60);
        String was = all(x);
        for (int n : new int[] {0, 61, -1, LEAST, MOST}) due("goes(" + n + ", 1)", x.goes(n, 1), NONE);
        due("goes(1, 1)", x.goes(1, 1), 1);
        due("goes(59, 1)", x.goes(59, 1), 1);
        due("goes(60, 1)", x.goes(60, 1), 2);
        same("goes(60, 1)", was, x);
    }

    static void p17AnotherWhat() {
        says(17, "GOES what 0 KEPT, 1 FORGOT, 2 KNOTS, 3 TIGHT. NONE if one can't be, or another what.");
        KnotLaundry x = house();
        for (int what : new int[] {-1, 4, LEAST, MOST}) due("goes(1, " + what + ")", x.goes(1, what), NONE);
        x.act(0, 0, 0);
        x.act(0, 1, 0);
        x.act(0, 3, 1);
        x.set(3, 3, 9);
        x.set(2, 1, 2);
        due("goes(3, 0), thing 0", x.goes(3, 0), 1);
        due("goes(3, 1), thing 1", x.goes(3, 1), 1);
        due("goes(3, 2), thing 3", x.goes(3, 2), 1);
        due("goes(3, 3), thing 3", x.goes(3, 3), 9);
        due("goes(4, 1), thing 2, too", x.goes(4, 1), 2);
    }

    static void p17OfAll() {
        says(17, "KEPT of all, FORGOT of all, KNOTS of all CLOTHS, TIGHT of all THINGS then");
        KnotLaundry x = new KnotLaundry();
        due("goes(60, 0), nobody there", x.goes(60, 0), 0);
        due("goes(60, 3), nobody there", x.goes(60, 3), 0);
        KnotLaundry y = house(12, 14, 0, 0);
        for (int t = 0; t < 20; t++) y.thing(11, t == 19 ? 1 : 50);
        for (int c = 0; c < 14; c++) y.act(0, c, c);
        y.act(0, 19, 13);
        y.act(1, 13, 11);
        due("goes(1, 2)", y.goes(1, 2), 15);
        due("goes(1, 3)", y.goes(1, 3), 15);
        due("goes(2, 2), the last knot of the last cloth is kept", y.goes(2, 2), 14);
        due("goes(2, 0), of the last person", y.goes(2, 0), 1);
        due("goes(51, 1)", y.goes(51, 1), 18);
        due("goes(51, 0)", y.goes(51, 0), 2);
        due("goes(51, 3)", y.goes(51, 3), 0);
        // What was kept before counts, too.
        KnotLaundry z = keptAndForgotten();
        due("goes(1, 0)", z.goes(1, 0), 1);
        due("goes(1, 1)", z.goes(1, 1), 1);
    }

    static void p17FiveHundredAtLeast() {
        says(17, "no DRAWS: it slips, he tells, if that is 500 at least");
        for (int likely : new int[] {0, 1, 499, 500, 1000}) {
            KnotLaundry x = lentAway();
            say(x, 0, "slips 0; tells " + likely + ";");
            String was = all(x);
            due("goes(3, 0), tells " + likely, x.goes(3, 0), likely >= 500 ? 1 : 0);
            due("goes(3, 1), tells " + likely, x.goes(3, 1), likely >= 500 ? 0 : 1);
            same("goes", was, x);
            say(x, 1, "on 1 wash 1;");
            say(x, 0, "tells 0; slips " + likely + ";");
            due("goes(2, 2), slips " + likely, x.goes(2, 2), likely >= 500 ? 0 : 1);
            due("look(8)", x.look(8), 0);
        }
    }

    static void p17NothingStays() {
        says(17, "IN THOUGHT (nothing of it stays;");
        KnotLaundry x = house();
        say(x, 0, "slips 1000; tells 500;");
        say(x, 1, "on 0 tie 3 0; on 0 tie 1 1; on 1 wash 0; on 1 lend 1 2; on 2 pull 1; on 2 tie 0 0;");
        say(x, 2, "on 0 person 0 mind 1;");
        x.act(0, 2, 1);
        String was = all(x);
        // Thing 3 slips, thing 1 is pulled out: these are forgotten; 0 and 2 are with their owners on their days.
        due("goes(60, 0)", x.goes(60, 0), 2);
        due("goes(60, 1)", x.goes(60, 1), 2);
        due("fate(3)", x.fate(3), 2);
        same("goes() and fate()", was, x);
        due("look(13), what could be undone can be yet", x.look(13), 1);
    }

    static void p17PastTheLastDay() {
        says(17, "NONE if one can't be, or another what.");
        KnotLaundry x = house(1, 1, 1, 999);
        x.act(0, 0, 0);
        daysTill(x, 9999);
        due("look(6)", x.look(6), 9999);
        due("goes(1, 2), past the last day", x.goes(1, 2), 0);
        due("goes(60, 0), past the last day", x.goes(60, 0), 1);
        due("goes(60, 1)", x.goes(60, 1), 0);
        due("goes(61, 0)", x.goes(61, 0), NONE);
        due("look(6)", x.look(6), 9999);
    }

    // ---- promise 18: fate

    static void p18NoneSuch() {
        says(18, "NONE if there is none such.");
        KnotLaundry x = house();
        for (int thing : new int[] {-1, 4, LEAST, MOST}) due("fate(" + thing + ")", x.fate(thing), NONE);
        due("fate(0)", x.fate(0), 2);
        due("fate(3)", x.fate(3), 2);
        x.thing(0, 999);
        due("fate(4), there now", x.fate(4), 0);
        due("fate(5)", x.fate(5), NONE);
    }

    static void p18BehindSixtyDays() {
        says(18, "FATE of a THING: what it IS behind 60 DAYS (past 9999, too)");
        KnotLaundry x = house(1, 1, 3, 59);
        x.set(2, 1, 60);
        x.act(0, 2, 0);
        due("fate(0), due 59 days on", x.fate(0), 2);
        due("fate(1), due 60 days on", x.fate(1), 0);
        due("fate(2), kept", x.fate(2), 1);
        due("look(6), nothing of it stays", x.look(6), 0);
        x.days(1);
        due("fate(1), due 59 days on", x.fate(1), 2);
        daysTill(x, 9999);
        due("fate(0) past the last day", x.fate(0), 2);
        due("fate(2) past the last day", x.fate(2), 1);
        x.thing(0, 999);
        due("fate(3), its day is past", x.fate(3), 0);
        due("look(6)", x.look(6), 9999);
    }
}
