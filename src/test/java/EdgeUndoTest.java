/** The boundary cases of promises 38 to 40: what is undone, the image, and what is looked at. */
public final class EdgeUndoTest extends Edge {
    public static void main(String[] args) {
        run(EdgeUndoTest.class, 38, 39, 40);
    }

    private static final int LAW = 0;
    private static final int DEEDS = 1;
    private static final int MINDS = 2;
    private static final int FRIENDS = 3;

    /** A house in which a washing was done that can be undone. */
    static KnotLaundry washed() {
        KnotLaundry x = house();
        x.act(2, 0, 0);
        return x;
    }

    /** That the washing can still be undone (1), or was forgotten (0). */
    static void undoable(String call, KnotLaundry x, int want) {
        due("look(13) behind " + call, x.look(13), want);
        due("undo() behind " + call, x.undo(), want == 1);
        due("clothOf(0, 1) behind " + call, x.clothOf(0, 1), want == 1 ? 0 : 1);
        due("undo() again behind " + call, x.undo(), false);
    }

    // ---- promise 38: undo

    static void p38NothingToUndo() {
        says(38, "UNDO: true; false if there is nothing.");
        KnotLaundry x = house();
        String was = all(x);
        due("undo(), nothing done", x.undo(), false);
        same("undo()", was, x);
        due("look(13)", x.look(13), 0);
        x.act(2, 0, 0);
        due("look(13)", x.look(13), 1);
        due("undo()", x.undo(), true);
        same("act(2, 0, 0) and undo()", was, x);
        due("undo(), nothing is left", x.undo(), false);
        same("undo()", was, x);
        due("undo() of a new object", new KnotLaundry().undo(), false);
    }

    static void p38SixAreKept() {
        says(38, "6 are kept");
        for (int done = 5; done <= 8; done++) {
            KnotLaundry x = house();
            for (int i = 0; i < done; i++) x.act(2, 0, 0);
            int kept = Math.min(6, done);
            due("look(13), " + done + " washed", x.look(13), kept);
            for (int i = 1; i <= kept; i++) {
                due("undo(), the " + i + "th of " + done, x.undo(), true);
                due("clothOf(0, 1)", x.clothOf(0, 1), done - i);
                due("look(13)", x.look(13), kept - i);
            }
            due("undo(), one more", x.undo(), false);
            due("clothOf(0, 1)", x.clothOf(0, 1), done - kept);
        }
    }

    static void p38SixOfManyDays() {
        says(38, "the latest DAY, TYING, LENDING, WASHING, PULLING by hand not undone yet goes back");
        for (int n : new int[] {5, 6, 7, 60}) {
            KnotLaundry x = house();
            x.days(n);
            int kept = Math.min(6, n);
            due("look(13), days(" + n + ")", x.look(13), kept);
            for (int i = 1; i <= kept; i++) {
                due("undo()", x.undo(), true);
                due("look(6), a day at a time", x.look(6), n - i);
            }
            due("undo()", x.undo(), false);
            due("look(6)", x.look(6), n - kept);
        }
        // Each of a kind, and the latest first.
        KnotLaundry x = house();
        String[] was = new String[6];
        was[0] = state(x);
        due("act(0, 3, 1)", x.act(0, 3, 1), true);
        was[1] = state(x);
        due("act(1, 1, 2)", x.act(1, 1, 2), true);
        was[2] = state(x);
        due("act(2, 1, 0)", x.act(2, 1, 0), true);
        was[3] = state(x);
        due("act(0, 1, 0)", x.act(0, 1, 0), true);
        was[4] = state(x);
        due("act(3, 0, 0)", x.act(3, 0, 0), true);
        was[5] = state(x);
        due("days(1)", x.days(1), 0);
        for (int i = 5; i >= 0; i--) {
            due("undo()", x.undo(), true);
            due("whether all is as it was ahead of " + i, state(x).equals(was[i]), true);
        }
        due("undo()", x.undo(), false);
    }

    /** What a deed could change, in few calls. */
    static String state(KnotLaundry x) {
        StringBuilder s = new StringBuilder();
        for (int i = 0; i <= 8; i++) s.append(x.look(i)).append(' ');
        for (int c = 0; c < 2; c++) {
            for (int what : new int[] {0, 1, 2, 10, 11}) s.append(x.clothOf(c, what)).append(' ');
        }
        for (int t = 0; t < 4; t++) s.append(x.thingOf(t, 2)).append(x.thingOf(t, 3)).append(x.thingOf(t, 4)).append(' ');
        return s.toString();
    }

    static void p38StateAndBookToo() {
        says(38, "not undone yet goes back (STATE, THE BOOK, too)");
        // A washing that slips two knots and draws; a day that minds, deeds and what is due change.
        KnotLaundry x = house();
        say(x, LAW, "slips 1000; tells 1000;");
        say(x, MINDS, "on 0 person 0 mind 9;");
        say(x, DEEDS, "on 0 lend 1 2; on 0 tie 3 0;");
        x.act(0, 1, 0);
        x.act(0, 2, 0);
        x.set(2, 1, 0);
        x.state(7);
        String was = all(x);
        due("act(2, 0, 0)", x.act(2, 0, 0), true);
        due("look(5)", x.look(5), 0);
        due("look(7)", x.look(7), 4);
        due("look(8), it drew", x.look(8) == 7, false);
        due("undo()", x.undo(), true);
        same("a washing and undo()", was, x);
        due("book(2, 0), no line is left of it", x.book(2, 0), NONE - 1);
        due("days(1), thing 1 is told", x.days(1), 1);
        due("of(0, 0)", x.of(0, 0), 9);
        due("look(8), it drew", x.look(8) == 7, false);
        due("undo()", x.undo(), true);
        same("a day and undo()", was, x);
        // Done again it comes about as it did.
        due("days(1)", x.days(1), 1);
        line(x, 2, 0, 0, 3, 5);
        line(x, 3, 0, 2, 1, 0);
    }

    static void p38UndoneIsNotDone() {
        says(38, "UNDO: the latest DAY, TYING, LENDING, WASHING, PULLING by hand not undone yet");
        KnotLaundry x = house();
        for (int i = 0; i < 6; i++) x.act(2, 0, 0);
        x.undo();
        x.undo();
        due("look(13)", x.look(13), 4);
        x.act(2, 1, 0);
        due("look(13)", x.look(13), 5);
        due("undo()", x.undo(), true);
        due("clothOf(1, 1)", x.clothOf(1, 1), 0);
        due("clothOf(0, 1)", x.clothOf(0, 1), 4);
        for (int i = 3; i >= 0; i--) {
            due("undo()", x.undo(), true);
            due("clothOf(0, 1)", x.clothOf(0, 1), i);
        }
        due("undo()", x.undo(), false);
    }

    static void p38ForgetsThem() {
        says(38, "whatever else is told but THE LAW, FRIENDS and what is told for thought (BRAID, BOXES, TABLE, PAGES, SPELT)");
        KnotLaundry x = washed();
        x.state(0);
        undoable("state(0)", x, 0);
        x = washed();
        x.person(1);
        undoable("person(1)", x, 0);
        x = washed();
        x.cloth(1);
        undoable("cloth(1)", x, 0);
        x = washed();
        x.thing(1, 5);
        undoable("thing(1, 5)", x, 0);
        x = washed();
        x.act(0, 0, 1);
        x.act(3, 1, 0);
        x.set(0, 0, 4);
        undoable("set(0, 0, 4), what it was already", x, 0);
        x = washed();
        x.set(1, 1, 5);
        undoable("set(1, 1, 5)", x, 0);
        x = washed();
        x.set(2, 0, 5);
        undoable("set(2, 0, 5)", x, 0);
        x = house();
        x.act(0, 0, 0);
        x.set(3, 0, 9);
        due("look(13) behind set(3, 0, 9)", x.look(13), 0);
        x = washed();
        say(x, DEEDS, "on 0 wash 1;");
        undoable("text(1)", x, 0);
        x = washed();
        say(x, MINDS, "on 0 person 1 mind 1;");
        undoable("text(2)", x, 0);
        x = washed();
        x.text(DEEDS);
        undoable("text(1) of no lines", x, 0);
        x = washed();
        x.text(MINDS);
        undoable("text(2) of no lines", x, 0);
    }

    static void p38DoesNotForgetThem() {
        says(38, "THE LAW, FRIENDS and what is told for thought (BRAID, BOXES, TABLE, PAGES, SPELT)");
        KnotLaundry x = washed();
        due("text(0)", say(x, LAW, "slips 7; ties 8;"), 2);
        due("text(3)", say(x, FRIENDS, "person 0 knows 1;"), 1);
        x.crossing(1);
        x.crossing(0);
        x.crossing(2);
        x.answer(1);
        x.answer(NONE);
        x.answer(1);
        x.key(7);
        x.key(NONE);
        x.key(7);
        x.ask(7);
        x.ask(NONE);
        x.ask(7);
        x.digit(7);
        x.digit(NONE);
        x.digit(7);
        String thought = thought(x);
        undoable("what was told for thought", x, 1);
        // Nor do these go back with it.
        due("look(9)", x.look(9), 2);
        due("look(12)", x.look(12), 1);
        due("of(0, 6)", x.of(0, 6), 2);
        due("thingOf(0, 20)", x.thingOf(0, 20), 8);
        due("whether what was told for thought stays", thought(x).equals(thought), true);
        due("spelt(NONE, 0)", x.spelt(NONE, 0), 4);
    }

    static void p38WhatIsRefusedForgetsNothing() {
        says(38, "(feed(), end(), what is refused, a text with a FAULT, the taking of THE IMAGE do not) forgets them.");
        KnotLaundry x = washed();
        x.feed(1, 2, 3, 4, 5);
        x.end(10);
        x.end(11);
        x.end(0);
        undoable("feed() and end()", x, 1);
        x = washed();
        x.person(10);
        x.cloth(3);
        x.thing(3, 0);
        x.thing(0, 1000);
        x.set(0, 0, 10);
        x.set(1, 2, 0);
        x.set(2, 0, 1000);
        x.set(3, 0, 1);
        x.set(4, 0, 0);
        x.act(0, 4, 0);
        x.act(1, 0, 0);
        x.act(2, 2, 0);
        x.act(3, 0, 0);
        x.act(4, 0, 0);
        x.days(0);
        x.days(61);
        undoable("what is refused", x, 1);
        x = washed();
        x.crossing(5);
        x.answer(2);
        x.key(100);
        x.ask(10);
        x.digit(10);
        x.image(false);
        x.text(4);
        x.text(-1);
        undoable("what is refused of the others", x, 1);
        x = washed();
        for (int k = 0; k <= 3; k++) due("text(" + k + ")", say(x, k, "z"), NONE);
        say(x, DEEDS, "on 1000 wash 0;");
        say(x, MINDS, "on 0 person 0 mind 10;");
        undoable("texts with a fault", x, 1);
        x = washed();
        due("image(true)", x.image(true), true);
        undoable("image(true)", x, 1);
        x = new KnotLaundry();
        for (int i = 0; i < 12; i++) x.person(0);
        for (int i = 0; i < 14; i++) x.cloth(0);
        for (int i = 0; i < 20; i++) x.thing(0, 0);
        x.act(2, 0, 0);
        x.person(0);
        x.cloth(0);
        x.thing(0, 0);
        undoable("a thirteenth person, a fifteenth cloth, a twenty-first thing", x, 1);
    }

    static void p38AskingForgetsNothing() {
        says(38, "all undone that was done");
        KnotLaundry x = washed();
        all(x);
        x.goes(60, 0);
        x.fate(0);
        x.fault(0);
        x.turnings(110, 0);
        x.strip(64, 0, 0);
        x.piles(0, 1000);
        x.dealt(0);
        x.truth(1, 0);
        x.rounds(4, 0, 0);
        x.meets(4, 0, 1);
        x.rows(3, 2);
        x.game(3, 0);
        undoable("what is only asked", x, 1);
    }

    static void p38AFullBookToo() {
        says(38, "(STATE, THE BOOK, too): 6 are kept");
        KnotLaundry x = house(1, 1, 4, 100);
        // Tied and pulled out 74 times, tied once more: 149 lines; a washing of four knots wants four.
        for (int i = 0; i < 72; i++) {
            x.act(0, 0, 0);
            x.act(3, 0, 0);
        }
        for (int t = 0; t < 4; t++) x.act(0, t, 0);
        due("look(7)", x.look(7), 148);
        say(x, LAW, "slips 1000;");
        x.act(2, 0, 0);
        due("look(7), two of four lines had room", x.look(7), 150);
        due("look(5)", x.look(5), 0);
        due("undo()", x.undo(), true);
        due("look(7)", x.look(7), 148);
        due("look(5)", x.look(5), 4);
        due("book(148, 0)", x.book(148, 0), NONE - 1);
        line(x, 147, 0, 0, 3, 1);
        due("act(3, 0, 0)", x.act(3, 0, 0), true);
        line(x, 148, 0, 4, 3, 0);
    }

    // ---- promise 39: image

    static void p39NoneTaken() {
        says(39, "THE IMAGE is taken (true), or gone back to (false): true; false if there is none.");
        KnotLaundry x = washed();
        String was = all(x);
        due("image(false), none taken", x.image(false), false);
        same("image(false)", was, x);
        due("image(true)", x.image(true), true);
        same("image(true)", was, x);
        due("image(false)", x.image(false), true);
        due("clothOf(0, 1)", x.clothOf(0, 1), 1);
    }

    static void p39OfNobody() {
        says(39, "THE IMAGE: all that is and was told");
        KnotLaundry x = new KnotLaundry();
        String nobody = all(x);
        due("image(true) of nobody", x.image(true), true);
        x.person(5);
        x.cloth(0);
        x.thing(0, 0);
        x.act(0, 0, 0);
        x.days(2);
        x.state(9);
        due("image(false)", x.image(false), true);
        same("image(false)", nobody, x);
        due("cloth(0), nobody is there", x.cloth(0), NONE);
        due("person(3), the first again", x.person(3), 0);
        due("of(0, 1), and he kept nothing", x.of(0, 1), 0);
        due("of(0, 0)", x.of(0, 0), 3);
        due("cloth(0)", x.cloth(0), 0);
        due("clothOf(0, 2)", x.clothOf(0, 2), 0);
    }

    static void p39AsItWasWhenItWasTaken() {
        says(39, "as it was when it was taken");
        KnotLaundry x = house();
        say(x, LAW, "slips 7; ties 8;");
        say(x, DEEDS, "on 2 wash 1;");
        say(x, MINDS, "on 2 person 1 mind 5; on 2 person 1 mind 6;");
        say(x, FRIENDS, "person 0 knows 1;");
        x.crossing(2);
        x.answer(1);
        x.key(7);
        x.ask(7);
        x.digit(7);
        x.act(0, 0, 0);
        x.days(1);
        x.state(77);
        String was = all(x);
        due("image(true)", x.image(true), true);
        x.person(1);
        x.cloth(3);
        x.thing(3, 2);
        x.set(0, 0, 0);
        x.set(1, 0, 50);
        x.set(2, 0, 50);
        x.set(3, 0, 1);
        x.text(LAW);
        x.text(DEEDS);
        x.text(MINDS);
        x.text(FRIENDS);
        x.crossing(0);
        x.answer(NONE);
        x.key(NONE);
        x.ask(NONE);
        x.digit(NONE);
        x.crossing(3);
        x.answer(0);
        x.key(8);
        x.ask(8);
        x.digit(8);
        x.days(9);
        due("image(false)", x.image(false), true);
        same("image(false)", was, x);
        due("thingOf(0, 5), by the law of then", x.thingOf(0, 5), 7);
        due("days(2), thing 0 is kept", x.days(2), 1);
        due("clothOf(1, 1), by the deeds of then", x.clothOf(1, 1), 1);
        due("of(1, 0), by the minds of then", x.of(1, 0), 6);
        due("of(0, 6)", x.of(0, 6), 2);
    }

    static void p39TheBookOfThen() {
        says(39, "THE IMAGE: all that is and was told but the TAPE, fault() and what can be undone (nothing then), as it was when it was taken");
        KnotLaundry x = house();
        x.act(0, 0, 0);
        x.act(0, 1, 1);
        x.image(true);
        String was = all(x);
        // Undone and done otherwise: the second line is another one.
        x.undo();
        x.act(0, 2, 0);
        line(x, 1, 0, 0, 2, 3);
        x.act(0, 3, 0);
        due("look(7)", x.look(7), 3);
        due("image(false)", x.image(false), true);
        due("look(7)", x.look(7), 2);
        line(x, 0, 0, 0, 0, 3);
        line(x, 1, 0, 0, 1, 1);
        due("look(13), and nothing else is another", was.replace(" 2; person 0", " 0; person 0").equals(all(x)), true);
    }

    static void p39MoreThanOnce() {
        says(39, "gone back to it may be more than once");
        KnotLaundry x = house();
        x.act(0, 0, 0);
        x.set(3, 0, 6);
        String was = all(x);
        x.image(true);
        for (int i = 0; i < 2; i++) {
            x.days(3);
            x.act(2, 1, 0);
            x.digit(5);
            due("image(false)", x.image(false), true);
            same("image(false)", was, x);
        }
        due("image(false), nothing done between", x.image(false), true);
        // Another one is in its place.
        x.days(3);
        due("image(true)", x.image(true), true);
        x.days(3);
        due("image(false)", x.image(false), true);
        due("look(6)", x.look(6), 3);
    }

    static void p39NotTheTape() {
        says(39, "but the TAPE, fault() and what can be undone (nothing then)");
        KnotLaundry x = washed();
        feed(x, "slips 7;");
        x.image(true);
        due("feed(), blanks and a z", x.feed(0x20202020, 0x20202020, 0x20202020, 0x20202020, 0x2020207a), 28);
        due("image(false)", x.image(false), true);
        due("end(29)", x.end(29), false);
        due("end(28), the tape is as it was", x.end(28), true);
        due("text(0)", x.text(LAW), NONE);
        due("fault(1)", x.fault(1), 27);
        feed(x, "slips 7;");
        x.image(true);
        x.end(0);
        x.image(false);
        due("end(1), it does not come back", x.end(1), false);
        due("text(0)", x.text(LAW), 0);
    }

    static void p39NotTheFault() {
        says(39, "all that is and was told but the TAPE, fault()");
        KnotLaundry x = house();
        say(x, LAW, "slips 8/0;");
        x.image(true);
        due("fault(0)", x.fault(0), 2);
        x.text(LAW);
        x.image(false);
        due("fault(0), of the latest text", x.fault(0), 0);
        due("fault(1)", x.fault(1), NONE);
        say(x, LAW, "slips z;");
        x.image(false);
        due("fault(0), of the latest text", x.fault(0), 1);
        due("fault(1)", x.fault(1), 6);
    }

    static void p39NothingCanBeUndoneThen() {
        says(39, "what can be undone (nothing then)");
        KnotLaundry x = washed();
        x.image(true);
        due("look(13), of the taking", x.look(13), 1);
        x.act(2, 0, 0);
        due("look(13)", x.look(13), 2);
        due("image(false)", x.image(false), true);
        due("look(13)", x.look(13), 0);
        due("undo()", x.undo(), false);
        due("clothOf(0, 1)", x.clothOf(0, 1), 1);
        x.act(2, 0, 0);
        due("undo(), of what is done behind it", x.undo(), true);
        due("clothOf(0, 1)", x.clothOf(0, 1), 1);
        due("undo()", x.undo(), false);
    }

    // ---- promise 40: look

    static void p40AnotherWhat() {
        says(40, "NONE - 99999 for another what.");
        KnotLaundry x = house();
        for (int what : new int[] {-1, 14, LEAST, MOST}) due("look(" + what + ")", x.look(what), -100000);
        due("look(0), the first", x.look(0), 3);
        due("look(13), the last", x.look(13), 0);
    }

    static void p40StateAsItIs() {
        says(40, "(STATE as it is.)");
        KnotLaundry x = new KnotLaundry();
        for (int v : new int[] {-100000, NONE, LEAST, MOST, 0}) {
            x.state(v);
            due("look(8)", x.look(8), v);
        }
    }

    static void p40WhatThereIs() {
        says(40, "What 0 PERSONS, 1 CLOTHS, 2 THINGS, 3 those open (a set), 4 those kept (a set), 5 KNOTS of all");
        KnotLaundry x = new KnotLaundry();
        for (int what = 0; what <= 5; what++) due("look(" + what + "), nothing there", x.look(what), 0);
        x = house(12, 14, 20, 0);
        int[] all = {12, 14, 20, (1 << 20) - 1, 0, 0};
        for (int what = 0; what <= 5; what++) due("look(" + what + "), all there", x.look(what), all[what]);
        for (int t = 0; t < 19; t++) x.act(0, t == 18 ? 19 : t, t % 14);
        due("look(5)", x.look(5), 19);
        due("days(1)", x.days(1), 19);
        due("look(3), none is open", x.look(3), 0);
        due("look(4), 18 was not tied", x.look(4), (1 << 20) - 1 - (1 << 18));
        due("look(5)", x.look(5), 0);
    }

    static void p40FullTexts() {
        says(40, "6 DAY, 7 lines of THE BOOK, 8 STATE, 9 lines of THE LAW, 10 of DEEDS, 11 of MINDS, 12 of FRIENDS, 13 what can be undone");
        KnotLaundry x = house();
        say(x, LAW, times(16, "ties 1;"));
        say(x, DEEDS, times(15, "on 0 wash 0;"));
        say(x, MINDS, times(14, "on 0 person 0 mind 4;"));
        say(x, FRIENDS, times(13, "person 0 knows 1;"));
        for (int what = 9; what <= 12; what++) due("look(" + what + ")", x.look(what), 25 - what);
        x.act(0, 0, 0);
        due("look(7)", x.look(7), 1);
        due("look(13)", x.look(13), 1);
        x.days(1);
        due("look(6)", x.look(6), 1);
        due("look(13)", x.look(13), 2);
        x.undo();
        due("look(13)", x.look(13), 1);
        due("look(6)", x.look(6), 0);
    }
}
