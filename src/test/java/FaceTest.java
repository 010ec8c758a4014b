import java.lang.reflect.Constructor;
import java.lang.reflect.Field;
import java.lang.reflect.Method;
import java.lang.reflect.Modifier;
import java.util.Arrays;
import java.util.List;
import java.util.Set;
import java.util.TreeSet;

/** The public face of the document: all of it, and nothing beside it. */
public final class FaceTest {
    private static final String[] FACE = {
        "int type(int)", "int clear()", "int plain()", "int town(int,int)", "int bell(int,int)", "int far(int,int)",
        "int oath(int,int)", "int now(int)", "int lots(int)", "int trades(int,int)", "int widens(int,int)",
        "int undo()", "int inLots(int,int,int)", "int cost(int)", "int home(int)", "int hang(int)", "int round(int)",
        "int crossed()", "int oaths(int)", "int strokes(int,int)", "int found(int,int)", "int forget()",
        "int which(int)", "int odds(int)", "int rate(int,int)", "int keep(int)", "int back(int)", "int count(int)",
        "long trace()",
    };
    private static final String[] CONSTANTS = {"BAD", "FULL", "NO", "NONE", "STATE"};

    private static int wrong = 0;

    private static void check(boolean holds, String what) {
        if (!holds) {
            wrong++;
            System.out.println("not so: " + what);
        }
    }

    private static void checkFace() {
        int modifiers = BellLots.class.getModifiers();
        check(Modifier.isPublic(modifiers) && Modifier.isFinal(modifiers), "the class is public and final");
        Set<String> open = new TreeSet<>(), openNames = new TreeSet<>(), closedNames = new TreeSet<>();
        for (Method m : BellLots.class.getDeclaredMethods()) {
            if (Modifier.isPrivate(m.getModifiers())) {
                closedNames.add(m.getName());
                continue;
            }
            check(Modifier.isPublic(m.getModifiers()) && !Modifier.isStatic(m.getModifiers()), m + " is of the face");
            String types = String.join(",", Arrays.stream(m.getParameterTypes()).map(Class::getName).toList());
            open.add(m.getReturnType() + " " + m.getName() + "(" + types + ")");
            openNames.add(m.getName());
        }
        check(open.equals(new TreeSet<>(List.of(FACE))), "the methods are those of the document: " + open);
        closedNames.retainAll(openNames);
        check(closedNames.isEmpty(), "no private method bears a public one's name: " + closedNames);
        Set<String> constants = new TreeSet<>();
        for (Field f : BellLots.class.getDeclaredFields()) {
            int m = f.getModifiers();
            if (!Modifier.isPrivate(m)) {
                constants.add(f.getName());
                check(Modifier.isPublic(m) && Modifier.isStatic(m) && Modifier.isFinal(m), f + " is a constant");
            }
        }
        check(constants.equals(new TreeSet<>(List.of(CONSTANTS))), "the constants are those of the document");
        Constructor<?>[] made = BellLots.class.getDeclaredConstructors();
        check(made.length == 1 && made[0].getParameterCount() == 0 && Modifier.isPublic(made[0].getModifiers()),
            "one public constructor");
    }

    public static void main(String[] args) {
        checkFace();
        System.out.println(wrong == 0 ? "the face is the document's" : wrong + " things do not hold");
        if (wrong != 0) {
            System.exit(1);
        }
    }
}
