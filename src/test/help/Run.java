import java.io.IOException;
import java.io.UncheckedIOException;
import java.lang.reflect.InvocationTargetException;
import java.lang.reflect.Method;
import java.nio.file.Files;
import java.nio.file.Path;
import java.util.Arrays;
import java.util.Set;
import java.util.TreeSet;
import java.util.regex.Matcher;
import java.util.regex.Pattern;

/**
 * The calls on one new BellLots, told as texts such as "town(0, 1)", so that what is printed is what was asked; and,
 * for a whole test, which promise and which sentence of the document is looked at.
 */
public final class Run {
    public static final int BAD = -1, STATE = -2, FULL = -3, NONE = -9, NO = -1000000;
    public static final int LEAST = Integer.MIN_VALUE, GREATEST = Integer.MAX_VALUE;
    /** What later calls answer is free, so no test may lean on it. */
    public static final int MOST_CALLS = 512;

    private static final String DOCUMENT = document();
    private static final Set<Integer> PROMISES = new TreeSet<>();
    private static String label = "";
    private static int tests = 0, wrong = 0;
    /** How far the document was read by next(). */
    private static int read = 0;

    private final BellLots x = new BellLots();
    private int calls = 0;

    // ---- one run

    /** A new object for which a text was told; it has no FAULT. */
    public static Run told(String text) {
        Run run = new Run().letters(text);
        return run.due("plain()", text.chars().filter(c -> c == ';').count());
    }

    public Run letters(String text) {
        for (int i = 0; i < text.length(); i++) {
            done("type(" + (int) text.charAt(i) + ")");
        }
        return this;
    }

    public Run due(String call, long want) {
        long got = ask(call);
        if (got != want) {
            complain(call + " answered " + got + ", due is " + want);
        }
        return this;
    }

    /** Calls that only lead somewhere: none of them may be refused. */
    public Run done(String... made) {
        for (String call : made) {
            long got = ask(call);
            if (got < 0) {
                complain(call + " answered " + got + ", but should have been taken");
            }
        }
        return this;
    }

    public Run times(int often, String call) {
        for (int i = 0; i < often; i++) {
            done(call);
        }
        return this;
    }

    public long ask(String call) {
        calls++;
        if (calls > MOST_CALLS) {
            complain("the test makes more than " + MOST_CALLS + " calls: " + call);
        }
        int open = call.indexOf('(');
        String inside = call.substring(open + 1, call.length() - 1).trim();
        Object[] numbers = inside.isEmpty() ? new Object[0]
            : Arrays.stream(inside.split(",")).map(n -> (Object) Integer.valueOf(n.trim())).toArray();
        try {
            return ((Number) method(call.substring(0, open)).invoke(x, numbers)).longValue();
        } catch (InvocationTargetException thrown) {
            complain(call + " threw " + thrown.getCause());
            return Long.MIN_VALUE;
        } catch (IllegalAccessException closed) {
            throw new IllegalStateException(closed);
        }
    }

    private static Method method(String name) {
        for (Method m : BellLots.class.getMethods()) {
            if (m.getDeclaringClass() == BellLots.class && m.getName().equals(name)) {
                return m;
            }
        }
        throw new IllegalArgumentException(name);
    }

    // ---- a whole test

    /** One test: a promise, a sentence of the document (or the part of it that counts), word by word, and its cases. */
    public static void sentence(int promise, String words, Runnable cases) {
        label = "promise " + promise + ", \"" + words + "\"";
        PROMISES.add(promise);
        tests++;
        if (!DOCUMENT.contains(words)) {
            complain("the document does not say so");
        }
        cases.run();
    }

    /** The same for words that must follow in the document upon those before: so nothing in it is passed over. */
    public static void next(int promise, String words, Runnable cases) {
        read += betweenPieces();
        boolean follows = DOCUMENT.startsWith(words, read);
        sentence(promise, words, cases);
        if (follows) {
            read += words.length();
        } else {
            complain("the document goes on otherwise: " + DOCUMENT.substring(read, Math.min(read + 60, DOCUMENT.length())));
            read = Math.max(read, DOCUMENT.indexOf(words, read) + words.length());
        }
    }

    /** All of the document from where it is read till these words, for a test that takes it apart itself. */
    public static String readUpTo(String words) {
        int from = read;
        read = Math.max(read, DOCUMENT.indexOf(words, read));
        return DOCUMENT.substring(from, read);
    }

    /** What was not read yet of the document. */
    public static String unread() {
        return DOCUMENT.substring(read + betweenPieces());
    }

    /** Blanks and the fences of texts are no words. */
    private static int betweenPieces() {
        Matcher gap = Pattern.compile("(\\s|```(text)?)*").matcher(DOCUMENT).region(read, DOCUMENT.length());
        return gap.lookingAt() ? gap.end() - read : 0;
    }

    public static void complain(String what) {
        wrong++;
        System.out.println(label + ": " + what);
    }

    /** Ends the program: with 1, if an answer was wrong or a promise has no test. */
    public static void end() {
        label = "all";
        for (int promise = 1; promise <= 30; promise++) {
            if (!PROMISES.contains(promise)) {
                complain("promise " + promise + " has no test here");
            }
        }
        System.out.println(tests + " tests: " + (wrong == 0 ? "all answers are as due" : wrong + " are not as due"));
        System.exit(wrong == 0 ? 0 : 1);
    }

    private static String document() {
        try {
            return Files.readString(Path.of("../shared/DOC.md")).replaceAll("\\s+", " ");
        } catch (IOException missing) {
            throw new UncheckedIOException(missing);
        }
    }
}
