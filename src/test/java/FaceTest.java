import java.io.IOException;
import java.lang.reflect.Constructor;
import java.lang.reflect.Field;
import java.lang.reflect.Method;
import java.lang.reflect.Modifier;
import java.nio.file.Files;
import java.nio.file.Path;
import java.util.ArrayList;
import java.util.Arrays;
import java.util.List;
import java.util.Set;
import java.util.TreeSet;
import java.util.regex.Matcher;
import java.util.regex.Pattern;

/** The public face of the document, and those rules of LANGUAGE.md that can be seen from the outside. */
public final class FaceTest {
    private static final String SOURCE = "src/main/java/BellLots.java";
    private static final String[] FACE = {
        "int type(int)", "int clear()", "int plain()", "int town(int,int)", "int bell(int,int)", "int far(int,int)",
        "int oath(int,int)", "int now(int)", "int lots(int)", "int trades(int,int)", "int widens(int,int)",
        "int undo()", "int inLots(int,int,int)", "int cost(int)", "int home(int)", "int hang(int)", "int round(int)",
        "int crossed()", "int oaths(int)", "int strokes(int,int)", "int found(int,int)", "int forget()",
        "int which(int)", "int odds(int)", "int rate(int,int)", "int keep(int)", "int back(int)", "int count(int)",
        "long trace()",
    };
    private static final String[] CONSTANTS = {"BAD", "FULL", "NO", "NONE", "STATE"};

    private static int wrong = 0;

    private static void check(boolean holds, String what) {
        if (!holds) {
            wrong++;
            System.out.println("not so: " + what);
        }
    }

    private static void checkFace() {
        int modifiers = BellLots.class.getModifiers();
        check(Modifier.isPublic(modifiers) && Modifier.isFinal(modifiers), "the class is public and final");
        Set<String> open = new TreeSet<>(), openNames = new TreeSet<>(), closedNames = new TreeSet<>();
        for (Method m : BellLots.class.getDeclaredMethods()) {
            if (Modifier.isPrivate(m.getModifiers())) {
                closedNames.add(m.getName());
                continue;
            }
            check(Modifier.isPublic(m.getModifiers()) && !Modifier.isStatic(m.getModifiers()), m + " is of the face");
            String types = String.join(",", Arrays.stream(m.getParameterTypes()).map(Class::getName).toList());
            open.add(m.getReturnType() + " " + m.getName() + "(" + types + ")");
            openNames.add(m.getName());
        }
        check(open.equals(new TreeSet<>(List.of(FACE))), "the methods are those of the document: " + open);
        closedNames.retainAll(openNames);
        check(closedNames.isEmpty(), "no private method bears a public one's name: " + closedNames);
        Set<String> constants = new TreeSet<>();
        for (Field f : BellLots.class.getDeclaredFields()) {
            int m = f.getModifiers();
            if (!Modifier.isPrivate(m)) {
                constants.add(f.getName());
                check(Modifier.isPublic(m) && Modifier.isStatic(m) && Modifier.isFinal(m), f + " is a constant");
            }
        }
        check(constants.equals(new TreeSet<>(List.of(CONSTANTS))), "the constants are those of the document");
        Constructor<?>[] made = BellLots.class.getDeclaredConstructors();
        check(made.length == 1 && made[0].getParameterCount() == 0 && Modifier.isPublic(made[0].getModifiers()),
            "one public constructor");
    }

    private static void checkClasses() {
        List<Class<?>> all = new ArrayList<>(List.of(BellLots.class.getDeclaredClasses()));
        check(all.size() < 12, "at most some twelve classes");
        for (Class<?> c : all) {
            check(Modifier.isStatic(c.getModifiers()) && !Modifier.isPublic(c.getModifiers()), c + " is static");
        }
        all.add(BellLots.class);
        for (Class<?> c : all) {
            int fields = 0;
            for (Field f : c.getDeclaredFields()) {
                boolean still = Modifier.isStatic(f.getModifiers());
                check(!still || Modifier.isFinal(f.getModifiers()), f + " is final");
                fields += still ? 0 : 1;
            }
            check(fields <= 20, c + " has some twenty fields at most");
            for (Method m : c.getDeclaredMethods()) {
                check(m.getParameterCount() <= 7, m + " takes at most seven");
            }
        }
    }

    private static void checkWords(String code) {
        String[] banned = {
            "\\bthrows?\\b", "\\btry\\b", "\\bcatch\\b", "\\bfinally\\b", "\\bsynchronized\\b", "\\bassert\\b", "->",
            "::", "\\bstatic\\s*\\{", "\\bvolatile\\b", "\\bdouble\\b", "\\bfloat\\b", "Exact\\b", "\\bpackage\\b",
            "\\bRandom\\b", "\\bThread\\b", "System\\.(?!arraycopy\\b)", "\\bhashCode\\b", "\\btoString\\b",
        };
        for (String word : banned) {
            check(!Pattern.compile(word).matcher(code).find(), "no " + word + " in the class");
        }
        Matcher imports = Pattern.compile("import\\s+([^;]+);").matcher(code);
        while (imports.find()) {
            check(List.of("java.util.Arrays", "java.util.List", "java.util.ArrayList").contains(imports.group(1)),
                "import " + imports.group(1));
        }
        check(code.chars().allMatch(c -> c == '\n' || c >= 32 && c < 127), "plain signs alone");
    }

    /** A method begins with a line that ends in ") {" right inside a class and ends at the brace of that depth. */
    private static void checkLengths(List<String> lines) {
        for (int i = 0; i < lines.size(); i++) {
            Matcher head = Pattern.compile("^( {4}| {8})\\w.*\\) \\{$").matcher(lines.get(i));
            if (head.find() && !lines.get(i).trim().matches("(for|if|while|switch)\\b.*")) {
                int length = lines.subList(i, lines.size()).indexOf(head.group(1) + "}") + 1;
                check(length > 0 && length <= 60, "line " + (i + 1) + ": a method of " + length + " lines");
            }
        }
    }

    public static void main(String[] args) throws IOException {
        checkFace();
        checkClasses();
        List<String> lines = Files.readAllLines(Path.of(SOURCE));
        String code = String.join("\n", lines).replaceAll("(?s)/\\*.*?\\*/", "").replaceAll("//[^\n]*", "");
        checkWords(code);
        checkLengths(lines);
        System.out.println(wrong == 0 ? "the face and the rules hold" : wrong + " things do not hold");
        if (wrong != 0) {
            System.exit(1);
        }
    }
}
