import java.io.IOException;
import java.lang.reflect.InvocationTargetException;
import java.lang.reflect.Method;
import java.lang.reflect.Modifier;
import java.nio.charset.StandardCharsets;
import java.nio.file.Files;
import java.nio.file.Path;
import java.util.Arrays;
import java.util.Comparator;
import java.util.Set;
import java.util.TreeSet;

/**
 * What the edge tests share. Each of their methods without a parameter is the test of one sentence of the document
 * that names a boundary case: it first says the promise and the sentence, which must stand in ../shared/DOC.md.
 */
abstract class Edge {
    static final int NONE = KnotLaundry.NONE;
    static final int LEAST = Integer.MIN_VALUE;
    static final int MOST = Integer.MAX_VALUE;

    private static final String DOC = flat(read(Path.of("..", "shared", "DOC.md")));
    private static final Set<String> SAID = new TreeSet<>();
    private static final Set<Integer> PROMISES = new TreeSet<>();
    private static String sentence = null;
    private static int asked = 0;
    private static int allAsked = 0;
    private static int wrong = 0;

    /** Runs each test of a class and ends the program: with 1 if anything was wrong, or a promise had no test. */
    static void run(Class<?> tests, int... promises) {
        Method[] methods = tests.getDeclaredMethods();
        Arrays.sort(methods, Comparator.comparing(Method::getName));
        for (Method method : methods) {
            if (Modifier.isStatic(method.getModifiers()) && method.getParameterCount() == 0
                && method.getReturnType() == void.class) {
                runOne(method);
            }
        }
        for (int promise : promises) {
            if (!PROMISES.contains(promise)) fail("promise " + promise + " has no test");
        }
        System.out.println(tests.getName() + ": " + SAID.size() + " sentences, " + allAsked + " answers, " + wrong + " wrong");
        System.exit(wrong == 0 ? 0 : 1);
    }

    private static void runOne(Method method) {
        sentence = null;
        asked = 0;
        try {
            method.setAccessible(true);
            method.invoke(null);
        } catch (InvocationTargetException e) {
            fail(method.getName() + ", " + sentence + ": threw " + e.getCause());
        } catch (IllegalAccessException e) {
            fail(method.getName() + ": " + e);
        }
        if (sentence == null || asked == 0) fail(method.getName() + " tests no sentence");
        allAsked += asked;
    }

    /** Which sentence a test is of: one that stands under the promise's heading, or above the promises. */
    static void says(int promise, String words) {
        if (sentence != null) fail("two sentences in one test: " + words);
        sentence = "promise " + promise + " \"" + words + "\"";
        if (!SAID.add(sentence)) fail("two tests of " + sentence);
        PROMISES.add(promise);
        int first = DOC.indexOf("## Promise 1:");
        int begin = DOC.indexOf("## Promise " + promise + ":");
        if (begin < 0 || first < 0) {
            fail("no " + sentence);
            return;
        }
        int end = DOC.indexOf(" ## ", begin);
        String own = DOC.substring(begin, end < 0 ? DOC.length() : end);
        if (!own.contains(flat(words)) && !DOC.substring(0, first).contains(flat(words))) {
            fail("the document does not say " + sentence);
        }
    }

    static void due(String call, long got, long want) {
        asked++;
        if (got != want) fail(sentence + ": " + call + " answered " + got + ", due is " + want);
    }

    static void due(String call, boolean got, boolean want) {
        asked++;
        if (got != want) fail(sentence + ": " + call + " answered " + got + ", due is " + want);
    }

    /** That nothing that can be read is another than it was. */
    static void same(String call, String was, KnotLaundry x) {
        asked++;
        String is = all(x);
        if (!is.equals(was)) fail(sentence + ": behind " + call + "\n  was " + was + "\n  is  " + is);
    }

    private static void fail(String what) {
        wrong++;
        System.out.println(what);
    }

    /** What can be read of an object, of a long book its last lines alone: an object has 512 calls. */
    static String all(KnotLaundry x) {
        StringBuilder s = new StringBuilder("look");
        for (int i = 0; i <= 13; i++) s.append(' ').append(x.look(i));
        int persons = x.look(0);
        int cloths = x.look(1);
        int things = x.look(2);
        int lines = x.look(7);
        for (int p = 0; p < persons; p++) {
            s.append("; person ").append(p).append(':');
            for (int what = 0; what <= 6; what++) s.append(' ').append(x.of(p, what));
        }
        for (int c = 0; c < cloths; c++) {
            s.append("; cloth ").append(c).append(':');
            for (int what : new int[] {0, 1, 2, 10, 11, 12, 13}) s.append(' ').append(x.clothOf(c, what));
        }
        for (int t = 0; t < things; t++) {
            s.append("; thing ").append(t).append(':');
            for (int what = 0; what <= 4; what++) s.append(' ').append(x.thingOf(t, what));
        }
        for (int i = Math.max(0, lines - 6); i < lines; i++) {
            s.append("; line ").append(i).append(':');
            for (int what = 0; what <= 3; what++) s.append(' ').append(x.book(i, what));
        }
        return s + "; thought " + thought(x);
    }

    /** What can be read of what was told for thought. */
    static String thought(KnotLaundry x) {
        StringBuilder s = new StringBuilder("braid");
        for (int p = NONE; p <= 4; p++) s.append(' ').append(x.braid(p));
        s.append(", boxes ").append(x.boxes(0)).append(' ').append(x.boxes(1));
        s.append(", table ").append(x.table(11, 0, 1)).append(' ').append(x.table(3, 99, 1)).append(' ').append(x.table(16, 7, 0));
        s.append(", pages ").append(x.pages(2, 0)).append(' ').append(x.pages(1, 1));
        s.append(", spelt ").append(x.spelt(NONE, 0));
        return s.toString();
    }

    /** Persons 0 (mind 4), 1 (mind 0), 2 (mind 9); cloths 0 with 0, 1 with 1; things 0 of 0 due 2, 1 of 1 due 3, 2 of 2 due 3, 3 of 0 due 9. */
    static KnotLaundry house() {
        KnotLaundry x = new KnotLaundry();
        x.person(4);
        x.person(0);
        x.person(9);
        x.cloth(0);
        x.cloth(1);
        x.thing(0, 2);
        x.thing(1, 3);
        x.thing(2, 3);
        x.thing(0, 9);
        return x;
    }

    /** A house of persons that are all of one mind, with cloths all with the first of them and things all of him. */
    static KnotLaundry house(int persons, int cloths, int things, int due) {
        KnotLaundry x = new KnotLaundry();
        for (int i = 0; i < persons; i++) x.person(0);
        for (int i = 0; i < cloths; i++) x.cloth(0);
        for (int i = 0; i < things; i++) x.thing(0, due);
        return x;
    }

    /** Puts bytes behind the tape, which is empty, and cuts off what filled up the last twenty. */
    static void feed(KnotLaundry x, String s) {
        for (int from = 0; from < s.length(); from += 20) {
            int[] n = new int[5];
            for (int i = 0; i < 20; i++) n[i / 4] = n[i / 4] << 8 | (from + i < s.length() ? s.charAt(from + i) : ' ');
            x.feed(n[0], n[1], n[2], n[3], n[4]);
        }
        x.end(s.length());
    }

    static int say(KnotLaundry x, int k, String s) {
        feed(x, s);
        return x.text(k);
    }

    /** A text that is due to be refused, and for what at which place. */
    static void refused(KnotLaundry x, int k, String s, int fault, int place) {
        due("text(" + k + ") of " + s, say(x, k, s), NONE);
        due("fault(0) of " + s, x.fault(0), fault);
        due("fault(1) of " + s, x.fault(1), place);
    }

    /** A text that is due to be taken. */
    static void taken(KnotLaundry x, int k, String s, int lines) {
        due("text(" + k + ") of " + s, say(x, k, s), lines);
        due("fault(0) of " + s, x.fault(0), 0);
        due("fault(1) of " + s, x.fault(1), NONE);
    }

    /** A line of the book. */
    static void line(KnotLaundry x, int i, int day, int what, int which, int howMuch) {
        due("book(" + i + ", 0)", x.book(i, 0), day);
        due("book(" + i + ", 1)", x.book(i, 1), what);
        due("book(" + i + ", 2)", x.book(i, 2), which);
        due("book(" + i + ", 3)", x.book(i, 3), howMuch);
    }

    /** Days go by till a day, as many at once as can be. */
    static void daysTill(KnotLaundry x, int day) {
        for (int n = day - x.look(6); n > 0; n -= 60) x.days(Math.min(60, n));
    }

    static String times(int n, String s) { return s.repeat(Math.max(n, 0)); }

    private static String flat(String s) { return s.replaceAll("\\s+", " ").trim(); }

    private static String read(Path path) {
        try {
            return Files.readString(path, StandardCharsets.UTF_8);
        } catch (IOException e) {
            throw new IllegalStateException("no document at " + path, e);
        }
    }
}
