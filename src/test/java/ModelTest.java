import java.util.ArrayList;
import java.util.List;
import java.util.Random;

/** All promises: long runs of calls, always the same ones, whose answers are compared with those of Model. */
public final class ModelTest {
    private static final int RUNS = 400;
    private static final int CALLS = 512;
    private static final int[] ODD = {-1, 16, 40, 64, 1000, Integer.MAX_VALUE, Integer.MIN_VALUE};
    private static final String[] QUESTIONS = {"ofEntry", "ofEntry", "dependsOn", "ofFile", "ofFile", "count", "set", "depth", "wants",
        "worst", "unlike", "fault"};
    private static final String[] LOG = {"make", "make", "make", "write", "move", "move", "drop"};
    private static final String[] OTHERS = {"need", "lose", "find", "beginAnew", "round", "round", "replay", "replay", "undo", "save",
        "restore", "put", "put", "wipe", "text", "text"};

    private final Random random;
    private final int files;
    private final int entries;
    private final DependentReplay program = new DependentReplay();
    private final Model model = new Model();
    private final List<String> calls = new ArrayList<>();
    private boolean isRight = true;

    private ModelTest(int seed) {
        random = new Random(seed);
        files = 2 + random.nextInt(14);
        entries = 3 + random.nextInt(38);
    }

    public static void main(String[] arguments) {
        for (int run = 0; run < RUNS; run++) {
            new ModelTest(run).run();
        }
        Check.end();
    }

    private void run() {
        while (isRight && calls.size() < CALLS) {
            int kind = random.nextInt(20);
            if (kind < 9) {
                String question = QUESTIONS[random.nextInt(QUESTIONS.length)];
                compare(question, first(question), second(question));
            } else if (kind < 14 && size() < entries) {
                String call = LOG[random.nextInt(LOG.length)];
                compare(call, first(call), second(call));
            } else {
                other(OTHERS[random.nextInt(OTHERS.length)]);
            }
        }
    }

    private void other(String call) {
        if (call.equals("put")) {
            compare("put", characters(), 0);
        } else if (call.equals("text")) {
            text();
        } else {
            compare(call, first(call), second(call));
        }
    }

    private void compare(String call, long a, int b) {
        if (calls.size() >= CALLS) {
            return;
        }
        String told = call + "(" + a + ", " + b + ")";
        calls.add(told);
        long got = answer(call, a, b);
        long due = model.answer(call, a, b);
        Check.due(told, got, due);
        if (got != due) {
            isRight = false;
            System.out.println("  at the end of " + calls);
        }
    }

    /** Asked of the model, as the program is to be asked CALLS times only. */
    private int size() {
        return (int) model.answer("count", 0, 0);
    }

    private int number(int bound) {
        return random.nextInt(60) == 0 ? ODD[random.nextInt(ODD.length)] : random.nextInt(bound);
    }

    private int first(String call) {
        switch (call) {
            case "make": case "write": case "move": case "drop": return number(60) == 0 ? 0 : 1 + number(files - 1);
            case "ofFile": return number(files);
            case "count": return number(10);
            case "set": return number(5);
            case "worst": case "save": case "restore": return number(2);
            default: return number(size() + 1);
        }
    }

    private int second(String call) {
        switch (call) {
            case "make": case "move": return number(files);
            case "write": return number(4);
            case "ofEntry": return number(9);
            case "ofFile": return number(6);
            case "need": return number(size() + 1);
            default: return 0;
        }
    }

    /** Mostly what can stand somewhere in a text. */
    private long characters() {
        String signs = "mwvdlfnr;/=<0129abcpq";
        long characters = 0;
        int length = 1 + random.nextInt(8);
        for (int i = 0; i < length; i++) {
            int code = random.nextInt(200) == 0 ? random.nextInt(256) : signs.charAt(random.nextInt(signs.length()));
            characters = characters << 8 | code;
        }
        return characters;
    }

    /** A text of orders, sometimes with one wrong character, put in pieces and carried out. */
    private void text() {
        if (random.nextInt(4) != 0) {
            compare("wipe", 0, 0);
        }
        StringBuilder text = new StringBuilder(order());
        for (int more = random.nextInt(12); more > 0; more--) {
            text.append(';').append(order());
        }
        if (random.nextInt(3) == 0) {
            text.setCharAt(random.nextInt(text.length()), (char) (33 + random.nextInt(94)));
        }
        for (int from = 0; from < text.length(); from += 8) {
            compare("put", Check.packed(text.substring(from, Math.min(from + 8, text.length()))), 0);
        }
        compare("fault", 0, 0);
        compare("carryOut", 0, 0);
    }

    private String order() {
        char file = (char) ('b' + random.nextInt(files - 1));
        char directory = (char) ('a' + random.nextInt(files));
        int entry = random.nextInt(Math.min(size() + 2, 40));
        int earlier = random.nextInt(entry + 1);
        switch (random.nextInt(9)) {
            case 0: case 1: return "m" + file + "/" + directory;
            case 2: return "w" + file + "=" + random.nextInt(1000);
            case 3: return "v" + file + "/" + directory;
            case 4: return "d" + file;
            case 5: return "l" + entry;
            case 6: return "f" + entry;
            case 7: return "n" + entry + "<" + earlier;
            default: return "r";
        }
    }

    private long answer(String call, long a, int b) {
        int first = (int) a;
        switch (call) {
            case "make": return program.make(first, b);
            case "write": return program.write(first, b);
            case "move": return program.move(first, b);
            case "drop": return program.drop(first);
            case "need": return program.need(first, b);
            case "lose": return program.lose(first);
            case "find": return program.find(first);
            case "beginAnew": return program.beginAnew();
            case "round": return program.round();
            case "replay": return program.replay();
            case "ofEntry": return program.ofEntry(first, b);
            case "dependsOn": return program.dependsOn(first);
            case "ofFile": return program.ofFile(first, b);
            case "count": return program.count(first);
            case "set": return program.set(first);
            case "depth": return program.depth(first);
            default: return otherAnswer(call, a);
        }
    }

    private long otherAnswer(String call, long a) {
        int first = (int) a;
        switch (call) {
            case "wants": return program.wants(first);
            case "worst": return program.worst(first);
            case "unlike": return program.unlike();
            case "put": return program.put(a);
            case "wipe": return program.wipe();
            case "fault": return program.fault();
            case "carryOut": return program.carryOut();
            case "undo": return program.undo();
            case "save": return program.save(first);
            case "restore": return program.restore(first);
            default: throw new IllegalArgumentException(call);
        }
    }
}
