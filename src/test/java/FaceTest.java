import java.lang.reflect.Constructor;
import java.lang.reflect.Field;
import java.lang.reflect.Method;
import java.lang.reflect.Modifier;
import java.util.Arrays;
import java.util.TreeSet;

/** Promise 1, and the public face; with it rule 1 of LANGUAGE.md. */
public final class FaceTest {
    private static final String[] METHODS = {
        "int make(int,int)", "int write(int,int)", "int move(int,int)", "int drop(int)", "int need(int,int)", "int lose(int)",
        "int find(int)", "int beginAnew()", "int round()", "int replay()", "int ofEntry(int,int)", "long dependsOn(int)",
        "int ofFile(int,int)", "int count(int)", "long set(int)", "int depth(int)", "long wants(int)", "int worst(int)",
        "int unlike()", "int put(long)", "int wipe()", "int fault()", "int carryOut()", "int undo()", "int save(int)",
        "int restore(int)",
    };
    private static final String[] CONSTANTS = {
        "NO_SUCH -1", "BAD_VALUE -2", "BAD_TEXT -3", "TOO_MANY -4", "NOT_POSSIBLE -5", "NONE -6",
        "MAKE 0", "WRITE 1", "MOVE 2", "DROP 3",
    };

    public static void main(String[] arguments) throws Exception {
        promise1();
        twoObjects();
        methods();
        privateMethods();
        constants();
        Check.end();
    }

    private static void promise1() {
        DependentReplay x = new DependentReplay();
        int[] counts = {0, 0, 0, 0, 0, 0, 1, 0, 0, 0};
        for (int what = 0; what < counts.length; what++) {
            Check.due("count(" + what + ")", x.count(what), counts[what]);
        }
        for (int what = 0; what <= 4; what++) {
            Check.due("set(" + what + ")", x.set(what), 0);
        }
        for (int file = 0; file <= 15; file++) {
            Check.due("file " + file, x.ofFile(file, 0), file == 0 ? 1 : 0);
        }
        Check.due("entry 0", x.ofEntry(0, 0), -1);
        Check.due("the empty pad's fault", x.fault(), 0);
        Check.due("undo", x.undo(), -5);
        Check.due("restore(0)", x.restore(0), -5);
        Check.due("restore(1)", x.restore(1), -5);
    }

    private static void twoObjects() {
        DependentReplay x = Check.after("mb/a;r");
        x.save(0);
        x.put('r');
        Check.due("another one is empty", Check.all(new DependentReplay()).equals(Check.all(x)) ? 1 : 0, 0);
        Check.due("its slots, too", new DependentReplay().restore(0), -5);
    }

    private static void methods() {
        TreeSet<String> found = new TreeSet<>();
        for (Method method : DependentReplay.class.getDeclaredMethods()) {
            if (!Modifier.isPrivate(method.getModifiers())) {
                String parameters = String.join(",", Arrays.stream(method.getParameterTypes()).map(Class::getName).toList());
                found.add(method.getReturnType() + " " + method.getName() + "(" + parameters + ")");
                Check.due(method + " is public", Modifier.isPublic(method.getModifiers()) ? 1 : 0, 1);
                Check.due(method + " is static", Modifier.isStatic(method.getModifiers()) ? 1 : 0, 0);
            }
        }
        Check.due("the methods", found.toString(), new TreeSet<>(Arrays.asList(METHODS)).toString());
        Constructor<?>[] constructors = DependentReplay.class.getDeclaredConstructors();
        Check.due("constructors", constructors.length, 1);
        Check.due("its parameters", constructors[0].getParameterCount(), 0);
        Check.due("it is public", Modifier.isPublic(constructors[0].getModifiers()) ? 1 : 0, 1);
        int modifiers = DependentReplay.class.getModifiers();
        Check.due("public and final", Modifier.isPublic(modifiers) && Modifier.isFinal(modifiers) ? 1 : 0, 1);
    }

    /** LANGUAGE.md, rule 1: no private method bears the name of a public one. */
    private static void privateMethods() {
        String names = Arrays.toString(METHODS);
        checkPrivateMethods(DependentReplay.class, names);
        for (Class<?> inside : DependentReplay.class.getDeclaredClasses()) {
            Check.due(inside + " is static", Modifier.isStatic(inside.getModifiers()) ? 1 : 0, 1);
            checkPrivateMethods(inside, names);
        }
    }

    private static void checkPrivateMethods(Class<?> of, String names) {
        for (Method method : of.getDeclaredMethods()) {
            if (Modifier.isPrivate(method.getModifiers())) {
                Check.due(method + " bears a public name", names.contains(" " + method.getName() + "(") ? 1 : 0, 0);
            }
        }
    }

    private static void constants() throws Exception {
        TreeSet<String> found = new TreeSet<>();
        for (Field field : DependentReplay.class.getDeclaredFields()) {
            if (!Modifier.isPrivate(field.getModifiers())) {
                Check.due(field + " is a constant", field.getModifiers(), Modifier.PUBLIC | Modifier.STATIC | Modifier.FINAL);
                found.add(field.getName() + " " + field.getInt(null));
            }
        }
        Check.due("the constants", found.toString(), new TreeSet<>(Arrays.asList(CONSTANTS)).toString());
    }
}
