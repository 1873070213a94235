import java.io.IOException;
import java.lang.annotation.ElementType;
import java.lang.annotation.Retention;
import java.lang.annotation.RetentionPolicy;
import java.lang.annotation.Target;
import java.lang.reflect.InvocationTargetException;
import java.lang.reflect.Method;
import java.lang.reflect.Modifier;
import java.nio.charset.StandardCharsets;
import java.nio.file.Files;
import java.nio.file.Path;
import java.util.ArrayList;
import java.util.Arrays;
import java.util.Comparator;
import java.util.List;
import java.util.Map;
import java.util.TreeMap;
import java.util.function.Supplier;
import java.util.regex.Matcher;
import java.util.regex.Pattern;

/**
 * What the tests of the document's sentences share, of ordinary use and of boundaries. A test is a static method without arguments, named by
 * its promise's number ("promise7_..") and marked with the words of ../shared/DOC.md that it holds the class to.
 */
abstract class BoundaryKit {
    /** The words of the document, of that promise or of its terms, that a test would see broken. */
    @Retention(RetentionPolicy.RUNTIME)
    @Target(ElementType.METHOD)
    @interface Says {
        String value();
    }

    static final int MIN = Integer.MIN_VALUE;
    static final int MAX = Integer.MAX_VALUE;
    static final long NO = -4611686018427387904L;

    private static final Path DOCUMENT = Path.of("../shared/DOC.md");
    private static final Pattern NAME = Pattern.compile("promise(\\d+)_\\w+");
    private static final Pattern REFUSAL = Pattern.compile("\\b(BAD|FULL|STATE|NO)\\b|-\\d+");

    private static int checks = 0;
    private static int wrong = 0;
    private static int many = 0;
    private static String test = "";

    // ---- what a test says

    static void due(String call, long got, long want) {
        checks++;
        if (got != want) {
            fail(call + " answered " + got + ", due is " + want);
        }
    }

    private static void fail(String what) {
        wrong++;
        System.out.println(test + ": " + what);
    }

    /** In a town where much stands, a call is refused so and changes nothing. */
    static void refused(long want, String name, int... a) {
        refusedIn(BoundaryKit::rich, want, name, a);
    }

    static void refusedIn(Supplier<KeysForSecond> made, long want, String name, int... a) {
        KeysForSecond x = made.get();
        due(name + Arrays.toString(a), call(x, name, a), want);
        same("refused, " + name + Arrays.toString(a), x, made.get());
    }

    /** In a town where much stands, a call answers twice the same and changes nothing. */
    static void asked(String name, int... a) {
        KeysForSecond x = rich();
        long once = call(x, name, a);
        due(name + Arrays.toString(a) + " once more", call(x, name, a), once);
        due(name + Arrays.toString(a) + " is no refusal", once < -1 ? once : 0, 0);
        same("asked, " + name + Arrays.toString(a), x, rich());
    }

    /** Whether two objects answer all that can be asked of them alike; both are used up by it. */
    static void same(String what, KeysForSecond x, KeysForSecond y) {
        List<Long> all = whole(x);
        List<Long> other = whole(y);
        checks++;
        if (!all.equals(other)) {
            int i = 0;
            while (all.get(i).equals(other.get(i))) {
                i++;
            }
            fail(what + ": answer " + i + " of the whole is " + all.get(i) + ", due is " + other.get(i));
        }
    }

    // ---- towns

    /** A new town with these as of citizen(), two by two. */
    static KeysForSecond people(int... kindMoreDoorEggs) {
        return join(new KeysForSecond(), kindMoreDoorEggs);
    }

    static KeysForSecond join(KeysForSecond x, int... kindMoreDoorEggs) {
        for (int i = 0; i + 1 < kindMoreDoorEggs.length; i += 2) {
            x.citizen(kindMoreDoorEggs[i], kindMoreDoorEggs[i + 1]);
        }
        return x;
    }

    /** A new town of that law, with these as of citizen(). */
    static KeysForSecond ruled(String tries, String pays, String goes, int... kindMoreDoorEggs) {
        KeysForSecond x = new KeysForSecond();
        x.force(text(x, "tries " + tries + ";pays " + pays + ";goes " + goes + ";"));
        return join(x, kindMoreDoorEggs);
    }

    /** These bytes come behind the tape's. */
    static void tape(KeysForSecond x, String bytes) {
        byte[] b = Arrays.copyOf(bytes.getBytes(StandardCharsets.ISO_8859_1), bytes.length() + 4);
        for (int i = 0; i < bytes.length(); i += 5) {
            x.feed(Math.min(5, bytes.length() - i), b[i] & 255, b[i + 1 < b.length ? i + 1 : i] & 255,
                b[i + 2 < b.length ? i + 2 : i] & 255, b[i + 3 < b.length ? i + 3 : i] & 255,
                b[i + 4 < b.length ? i + 4 : i] & 255);
        }
    }

    static int text(KeysForSecond x, String bytes) {
        tape(x, bytes);
        return x.text();
    }

    static void row(KeysForSecond x, int s, int sort, int... values) {
        x.sheet(s, sort, values.length);
        for (int i = 0; i < values.length; i++) {
            x.cell(s, i, values[i]);
        }
    }

    static int[] times(int n, int v) {
        int[] row = new int[n];
        Arrays.fill(row, v);
        return row;
    }

    static void minutes(KeysForSecond x, int n) {
        for (int i = 0; i < n; i++) {
            x.minute();
        }
    }

    static void behindAll(KeysForSecond x, int eggs) {
        for (int d = 0; d < 8; d++) {
            x.town(1, d, eggs);
        }
    }

    /** Of everything something: six people of all kinds, three texts, an image of another day, rows of each sort. */
    static KeysForSecond rich() {
        KeysForSecond x = people(53, 30, 14, 140, 22, 250, 36, 360, 45, 470, 7, 580);
        text(x, "tries door<6;pays 3;goes 1;");
        text(x, "tries 1;pays 4;goes 0-1;");
        x.force(1);
        x.town(0, 0, 17);
        x.town(2, 1, 0);
        x.twist(1);
        x.town(2, 2, 5);
        x.twist(2);
        x.town(1, 6, 77);
        x.image();
        x.force(2);
        x.town(0, 0, 44);
        x.town(2, 3, 2);
        x.twist(3);
        x.put(0, 1, 33);
        x.put(5, 0, 0);
        x.town(1, 0, 55);
        x.film(0, 0, 5);
        row(x, 1, 1, x.run(1, 20), x.run(2, 20), x.run(3, 20), x.run(4, 20), x.run(5, 20));
        row(x, 2, 2, x.run(1, 20), x.run(2, 20), x.run(3, 20), x.run(4, 20), x.run(5, 20));
        tape(x, "tries 3;pays 4;goe");
        return x;
    }

    /** All that can be asked of an object; what it does to learn it uses the object up. */
    static List<Long> whole(KeysForSecond x) {
        List<Long> all = new ArrayList<>();
        townOf(x, all);
        for (int p = 0; p < 6; p++) {
            for (int what = 5; what <= 8; what++) {
                all.add((long) x.told(p, what));
            }
        }
        for (int s = 0; s < 4; s++) {
            all.add((long) x.cell(s, -1, 0));
            all.add((long) x.judge(s, 0));
            for (int n = 4; n <= 6; n++) {
                all.add((long) x.copy(s, 0, s, 0, n));
            }
            for (int sort = 0; sort < 3; sort++) {
                all.add((long) x.peopleBy(s, sort, 0, 0));
            }
        }
        tape(x, "s 5;");
        all.add((long) x.text());
        for (int t = 0; t < 6; t++) {
            all.add((long) x.force(t));
            for (int part = 0; part < 3; part++) {
                all.add((long) x.asks(part, 1));
            }
        }
        all.add((long) x.back());
        townOf(x, all);
        return all;
    }

    private static void townOf(KeysForSecond x, List<Long> all) {
        for (int what = 0; what < 6; what++) {
            all.add((long) x.count(what));
        }
        for (int d = 0; d < 8; d++) {
            for (int what = 0; what < 4; what++) {
                all.add((long) x.door(d, what));
            }
        }
        for (int p = 0; p < 6; p++) {
            for (int what = 0; what < 5; what++) {
                all.add((long) x.told(p, what));
            }
        }
    }

    static long call(KeysForSecond x, String name, int... a) {
        Class<?>[] ints = new Class<?>[a.length];
        Object[] values = new Object[a.length];
        for (int i = 0; i < a.length; i++) {
            ints[i] = int.class;
            values[i] = a[i];
        }
        try {
            return ((Number) KeysForSecond.class.getMethod(name, ints).invoke(x, values)).longValue();
        } catch (InvocationTargetException e) {
            throw new IllegalStateException(name + Arrays.toString(a) + " threw " + e.getCause(), e.getCause());
        } catch (ReflectiveOperationException e) {
            throw new IllegalStateException(e);
        }
    }

    // ---- running them

    /** Runs all tests of a class and ends the program with 1, if one fails or a promise from .. to has a gap. */
    static void run(Class<?> tests, int from, int to) throws IOException {
        String document = plain(Files.readString(DOCUMENT));
        Map<Integer, List<String>> words = runAll(tests, from, to, document);
        for (int promise = from; promise <= to; promise++) {
            gaps(promise, promiseOf(document, promise), words.getOrDefault(promise, List.of()));
        }
        finish(from, to);
    }

    /** Likewise, but the refusals that a promise names are left to others. */
    static void runOrdinary(Class<?> tests, int from, int to) throws IOException {
        Map<Integer, List<String>> words = runAll(tests, from, to, plain(Files.readString(DOCUMENT)));
        for (int promise = from; promise <= to; promise++) {
            if (!words.containsKey(promise)) {
                fail("no test of promise " + promise);
            }
        }
        finish(from, to);
    }

    private static void finish(int from, int to) {
        System.out.println(many + " sentences of promises " + from + " to " + to + ", " + checks + " checks, "
            + wrong + " wrong");
        if (wrong != 0) {
            System.exit(1);
        }
    }

    private static Map<Integer, List<String>> runAll(Class<?> tests, int from, int to, String document) {
        Map<Integer, List<String>> words = new TreeMap<>();
        Method[] methods = tests.getDeclaredMethods();
        Arrays.sort(methods, Comparator.comparing(Method::getName));
        for (Method m : methods) {
            Matcher name = NAME.matcher(m.getName());
            if (name.matches()) {
                many++;
                test = m.getName();
                int promise = Integer.parseInt(name.group(1));
                if (promise < from || promise > to) {
                    fail("stands in the wrong class");
                }
                String says = wordsOf(m, promise, document);
                words.computeIfAbsent(promise, k -> new ArrayList<>()).add(says);
                runOne(m);
            }
        }
        test = tests.getSimpleName();
        return words;
    }

    private static void runOne(Method m) {
        int before = checks;
        try {
            m.setAccessible(true);
            m.invoke(null);
        } catch (InvocationTargetException e) {
            fail("threw " + e.getCause());
        } catch (IllegalAccessException | IllegalArgumentException e) {
            fail("can't be run: " + e);
        }
        if (checks == before || !Modifier.isStatic(m.getModifiers())) {
            fail("checks nothing");
        }
    }

    private static String wordsOf(Method m, int promise, String document) {
        Says says = m.getAnnotation(Says.class);
        String words = says == null ? "" : plain(says.value());
        String general = between(document, "## What it is", "## The public face") + "\n"
            + between(document, "## Terms", "Ahead of the calls");
        if (words.isEmpty() || !(promiseOf(document, promise) + "\n" + general).contains(words)) {
            fail("the document doesn't say '" + words + "' there");
        }
        return words;
    }

    /** Each piece of a promise that names a refusal is in the words of a test of that promise, or they in it. */
    private static void gaps(int promise, String text, List<String> words) {
        if (words.isEmpty()) {
            fail("no test of promise " + promise);
        }
        for (String piece : text.substring(text.indexOf('`', text.indexOf('`') + 1) + 1).split("(?<![. ])[.;] |\\.$|: (?=[A-Z])")) {
            if (REFUSAL.matcher(piece).find()) {
                String p = piece.strip();
                if (words.stream().noneMatch(w -> w.contains(p) || p.contains(w))) {
                    fail("promise " + promise + ": no test says '" + p + "'");
                }
            }
        }
    }

    private static String promiseOf(String document, int promise) {
        return between(document, "## Promise " + promise + ":", "## ").strip();
    }

    private static String between(String document, String from, String to) {
        int start = document.indexOf(from) + from.length();
        int end = document.indexOf(to, start);
        return document.substring(start, end < 0 ? document.length() : end);
    }

    private static String plain(String text) {
        return text.replace("```text", "").replace("```", "").replaceAll("\\s+", " ").strip();
    }
}
