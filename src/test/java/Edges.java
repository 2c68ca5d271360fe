import java.lang.reflect.Method;
import java.util.Arrays;
import java.util.Comparator;

/** Runs the tests of boundary cases, and makes what several of them begin with. */
final class Edges {
    /** None of them is an entry, a file, a slot or the number of a question; 64 is where a shift wraps around. */
    static final int[] FAR_OFF = {-1, 64, Integer.MIN_VALUE, Integer.MAX_VALUE};
    static final int ENTRIES = 40;
    static final long ALL_ENTRIES = entries(0, ENTRIES - 1);

    private Edges() {
    }

    /** The set of the entries from one to another. */
    static long entries(int from, int to) {
        return (1L << to + 1) - (1L << from);
    }

    /** Every method of the class but main that takes and returns nothing is a test, and bears its sentence. */
    static void run(Class<?> tests) throws Exception {
        Document document = new Document();
        Method[] methods = tests.getDeclaredMethods();
        Arrays.sort(methods, Comparator.comparing(Method::getName));
        for (Method method : methods) {
            boolean isTest = method.getParameterCount() == 0 && method.getReturnType() == void.class && !method.isSynthetic();
            if (isTest) {
                runOne(method, document);
            }
        }
        Check.end();
    }

    private static void runOne(Method test, Document document) throws Exception {
        Holds holds = test.getAnnotation(Holds.class);
        if (holds == null) {
            Check.due("a sentence for " + test.getName(), 0, 1);
            return;
        }
        Check.nowHeld(holds.at() + ", \"" + holds.sentence() + "\"");
        Check.due("the document has the sentence", document.says(holds.at(), holds.sentence()) ? 1 : 0, 1);
        int askedBefore = Check.asked();
        test.invoke(null);
        Check.due(test.getName() + " asks something", Check.asked() > askedBefore ? 1 : 0, 1);
    }

    /** Writes to file 1, which is not there: each entry depends on the one before it, and all are refused. */
    static DependentReplay chain(int entries) {
        DependentReplay x = new DependentReplay();
        for (int entry = 0; entry < entries; entry++) {
            Check.due("write of entry " + entry, x.write(1, entry), entry);
        }
        return x;
    }

    /** Each file in the one before it, all replayed: the deepest tree. */
    static DependentReplay deepTree() {
        DependentReplay x = new DependentReplay();
        for (int file = 1; file <= 15; file++) {
            x.make(file, file - 1);
        }
        Check.due("rounds of the deepest tree", x.replay(), 15);
        return x;
    }

    /** Each file in the root, not replayed: the widest round. */
    static DependentReplay wideLog() {
        DependentReplay x = new DependentReplay();
        for (int file = 1; file <= 15; file++) {
            x.make(file, 0);
        }
        return x;
    }

    static DependentReplay fullPad() {
        DependentReplay x = new DependentReplay();
        Check.due("80 characters", Check.put(x, "r;".repeat(40)), 80);
        return x;
    }

    /** The tree as a text, by 96 calls. */
    static String tree(DependentReplay x) {
        StringBuilder text = new StringBuilder();
        for (int file = 0; file <= 15; file++) {
            for (int what = 0; what <= 5; what++) {
                text.append(x.ofFile(file, what)).append(' ');
            }
        }
        return text.toString();
    }

    /** What a full log shows by few calls, but for the history, as Check.all() would need more than an object may be asked. */
    static String brief(DependentReplay x) {
        StringBuilder text = new StringBuilder();
        for (int what = 0; what <= 8; what++) {
            text.append(x.count(what)).append(' ');
        }
        for (int what = 0; what <= 4; what++) {
            text.append(x.set(what)).append(' ');
        }
        for (int what = 0; what <= 8; what++) {
            text.append(x.ofEntry(39, what)).append(' ');
        }
        return text.append(x.dependsOn(39)).append(' ').append(x.fault()).toString();
    }

    /** A call on a full log that has to return an error and to change nothing. */
    static void refusedBriefly(String what, DependentReplay x, long error, Check.Call call) {
        String before = brief(x) + " history " + x.count(9);
        Check.due(what, call.on(x), error);
        Check.due("all after " + what, brief(x) + " history " + x.count(9), before);
    }

    /** Why the entries from 0 on were refused. */
    static void reasons(DependentReplay x, int... due) {
        for (int entry = 0; entry < due.length; entry++) {
            Check.due("why entry " + entry + " was refused", x.ofEntry(entry, 6), due[entry]);
        }
    }
}
