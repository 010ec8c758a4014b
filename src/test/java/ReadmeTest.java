import java.io.IOException;
import java.lang.reflect.Method;
import java.lang.reflect.Modifier;
import java.nio.file.Files;
import java.nio.file.Path;
import java.util.ArrayList;
import java.util.List;
import java.util.Set;
import java.util.TreeSet;
import java.util.regex.Matcher;
import java.util.regex.Pattern;

/** README.md: every call and every refusal stands in it, and its examples answer what it says. */
public final class ReadmeTest {
    private static int wrong = 0;

    private static void check(boolean holds, String what) {
        if (!holds) {
            wrong++;
            System.out.println("README.md: " + what);
        }
    }

    private static Set<String> found(String text, String pattern) {
        Set<String> all = new TreeSet<>();
        Matcher m = Pattern.compile(pattern, Pattern.MULTILINE).matcher(text);
        while (m.find()) {
            all.add(m.group(1));
        }
        return all;
    }

    /** Each call's row names its numbers and what it may be refused by, as the document has them. */
    private static void checkCalls(String page, String document) {
        Set<String> rows = found(page, "^\\| `(\\w+\\([^)]*\\))` \\|");
        Set<String> due = new TreeSet<>();
        for (Method m : BellLots.class.getDeclaredMethods()) {
            if (Modifier.isPublic(m.getModifiers())) {
                Matcher told = Pattern.compile("public \\w+ " + m.getName() + "\\(([^)]*)\\);").matcher(document);
                check(told.find(), m.getName() + "() is not in the document");
                due.add(m.getName() + "(" + told.group(1).replace("int ", "") + ")");
            }
        }
        check(rows.equals(due), "the calls are " + due + ", told are " + rows);
        for (String call : due) {
            checkRefusals(page, document, call.substring(0, call.indexOf('(')));
        }
    }

    private static void checkRefusals(String page, String document, String name) {
        Matcher promise = Pattern.compile("\n`\\w+ " + name + "\\([^\n]*").matcher(document);
        Matcher row = Pattern.compile("\n\\| `" + name + "\\([^\n]*\\|([^|\n]*)\\|\n").matcher(page);
        if (!promise.find() || !row.find()) {
            check(false, name + "() has no promise or no row");
            return;
        }
        Set<String> due = found(promise.group(), "\\b(BAD|STATE|FULL|NO)\\b");
        if (due.contains("NO")) {
            due.remove("BAD");
        }
        Set<String> told = found(row.group(1), "\\b(BAD|STATE|FULL|NO)\\b");
        check(told.equals(due), name + "() is refused by " + due + ", told is " + told);
        check(promise.group().contains("NONE") == row.group().contains("NONE"), name + "(): NONE");
    }

    private static void checkConstants(String page) {
        check(page.contains("| -1 | `BAD` |") && BellLots.BAD == -1, "BAD");
        check(page.contains("| -2 | `STATE` |") && BellLots.STATE == -2, "STATE");
        check(page.contains("| -3 | `FULL` |") && BellLots.FULL == -3, "FULL");
        check(page.contains("`NONE` (-9)") && BellLots.NONE == -9, "NONE");
        check(page.contains("| -1000000 | `NO` |") && BellLots.NO == -1000000, "NO");
    }

    private static void checkExample(String page) {
        Matcher text = Pattern.compile("for \\(char letter : \"([^\"]*)\"").matcher(page);
        check(text.find(), "the example's text");
        Run x = new Run().letters(text.group(1));
        List<String> asked = new ArrayList<>();
        Matcher lines = Pattern.compile("^x\\.(\\w+\\([^)]*\\)); +// (-?[0-9]+)\\b", Pattern.MULTILINE).matcher(page);
        while (lines.find()) {
            asked.add(lines.group(1));
            long got = x.ask(lines.group(1));
            check(got == Long.parseLong(lines.group(2)), lines.group(1) + " answers " + got);
        }
        check(asked.size() == found(page, "(?m)^x\\.(.*)$").size() && asked.size() > 5, "the example's calls " + asked);
    }

    private static void checkFault(String page) {
        Matcher fault = Pattern.compile("`([^`]*)` answers (-[0-9]+), since the `;` is in place ([0-9]+)").matcher(page);
        check(fault.find(), "the FAULT's example");
        long got = new Run().letters(fault.group(1)).ask("plain()");
        check(got == Long.parseLong(fault.group(2)), "a FAULT answers " + got);
        check(fault.group(1).charAt(Integer.parseInt(fault.group(3))) == ';', "the FAULT's place");
    }

    private static void checkTests(String page) throws IOException {
        try (var files = Files.list(Path.of("src/test/java"))) {
            Set<String> there = new TreeSet<>();
            files.forEach(f -> there.add(f.getFileName().toString().replace(".java", "")));
            Set<String> told = found(page, "^- `(\\w+)`:");
            check(told.equals(there), "the tests are " + there + ", told are " + told);
        }
    }

    public static void main(String[] args) throws IOException {
        String page = Files.readString(Path.of("README.md"));
        checkCalls(page, Files.readString(Path.of("../shared/DOC.md")));
        checkConstants(page);
        checkExample(page);
        checkFault(page);
        checkTests(page);
        System.out.println(wrong == 0 ? "README.md says what is so" : wrong + " things are told wrongly");
        System.exit(wrong == 0 ? 0 : 1);
    }
}
