/** Promises 21 to 24: texts. */
public final class TextsTest {
    public static void main(String[] arguments) {
        promise21Put();
        promise21Wrong();
        promise21Full();
        promise22Wipe();
        promise23None();
        promise23Fault();
        promise23TooEarly();
        promise24Orders();
        promise24Errors();
        promise24Fault();
        promise24OneChange();
        Check.end();
    }

    private static void promise21Put() {
        DependentReplay x = new DependentReplay();
        Check.due("one character", x.put('m'), 1);
        Check.due("two more", x.put(Check.packed("b/")), 3);
        Check.due("eight more, in their order", x.put(Check.packed("a;wb=12;")), 11);
        Check.due("one more", x.put('r'), 12);
        Check.due("length", x.count(8), 12);
        Check.due("no fault", x.fault(), -6);
        Check.due("no change", x.count(9), 0);
        Check.due("carried out", x.carryOut(), 3);
        Check.due("the value of the entry", x.ofEntry(1, 2), 12);
        Check.due("codes 33 and 126", x.put(33L << 8 | 126), 2);
        Check.due("eight of code 126", x.put(0x7e7e7e7e7e7e7e7eL), 10);
    }

    private static void promise21Wrong() {
        DependentReplay x = Check.after("r");
        Check.put(x, "mb/");
        long[] wrong = {0, -1, 32, 127, 128, 255, 'm' << 8, 'm' << 8 | 32, 32L << 8 | 'm', 127L << 56 | Check.packed("xxxxxxx"),
            128L << 56 | Check.packed("xxxxxxx"), (long) 'm' << 16 | 'm', (long) 'm' << 56 | 'm', 1L << 63, 1L << 8 | 'm', Long.MIN_VALUE | 'm'};
        for (long characters : wrong) {
            Check.due("put(" + characters + ")", x.put(characters), -2);
            Check.due("length", x.count(8), 3);
        }
        Check.refused("put(0)", x, -2, y -> y.put(0));
    }

    private static void promise21Full() {
        DependentReplay x = new DependentReplay();
        for (int times = 1; times <= 9; times++) {
            Check.due("put", x.put(Check.packed("mb/a;mc/")), 8 * times);
        }
        Check.due("seven more", x.put(Check.packed("mb/a;mc")), 79);
        Check.due("two would be too many", x.put(Check.packed("/b")), -4);
        Check.due("a wrong one first", x.put(32L << 8 | 'b'), -2);
        Check.due("length", x.count(8), 79);
        Check.due("one more", x.put('/'), 80);
        Check.refused("one would be too many", x, -4, y -> y.put('a'));
        Check.due("none first", x.put(0), -2);
        Check.due("wipe", x.wipe(), 80);
        Check.due("room again", x.put('r'), 1);
    }

    private static void promise22Wipe() {
        DependentReplay x = new DependentReplay();
        Check.due("an empty pad", x.wipe(), 0);
        Check.put(x, "mb/a;r");
        Check.due("wipe", x.wipe(), 6);
        Check.due("length", x.count(8), 0);
        Check.due("no change", x.count(9), 0);
        Check.due("again", x.wipe(), 0);
        Check.put(x, "r");
        Check.due("nothing is left of the old text", x.fault(), -6);
    }

    private static void promise23None() {
        String[] texts = {"r", "r;r", "ma/a", "mp/p", "wb=0", "wb=9", "wb=10", "wb=100", "wb=999", "va/p", "da", "dp", "l0",
            "l10", "l999", "f0", "f999", "n0<0", "n999<999", "n1<0;r", "mb/a;wb=1;vb/a;db;l0;f0;n1<0;r"};
        for (String text : texts) {
            fault(text, -6);
        }
    }

    private static void promise23Fault() {
        fault("x", 0);
        fault("R", 0);
        fault(";", 0);
        fault("r;;", 2);
        fault("rr", 1);
        fault("mq/a", 1);
        fault("m`/a", 1);
        fault("m1/a", 1);
        fault("mb=1", 2);
        fault("mb/q", 3);
        fault("mb/A", 3);
        fault("mb/ab", 4);
        fault("wb/1", 2);
        fault("w1=1", 1);
        fault("wb=a", 3);
        fault("wb=;", 3);
        fault("wb=-1", 3);
        fault("wb=00", 4);
        fault("wb=01", 4);
        fault("wb=1000", 6);
        fault("wb=9990", 6);
        fault("vb=a", 2);
        fault("d;", 1);
        fault("dq", 1);
        fault("db/a", 2);
        fault("l;", 1);
        fault("la", 1);
        fault("l00", 2);
        fault("l1<2", 2);
        fault("l1000", 4);
        fault("f:", 1);
        fault("f/", 1);
        fault("n<1", 1);
        fault("n1;2", 2);
        fault("n1<", 3);
        fault("n01<0", 2);
        fault("n1000<0", 4);
        fault("n1<1000", 6);
        fault("n1<2<3", 4);
        fault("r;mb/a;x", 7);
        fault("r;x;y", 2);
    }

    private static void promise23TooEarly() {
        fault("", 0);
        fault("r;", 2);
        fault("m", 1);
        fault("mb", 2);
        fault("mb/", 3);
        fault("w", 1);
        fault("wb", 2);
        fault("wb=", 3);
        fault("v", 1);
        fault("vb/", 3);
        fault("d", 1);
        fault("l", 1);
        fault("f", 1);
        fault("n", 1);
        fault("n1", 2);
        fault("n1<", 3);
        fault("r;r;d", 5);
        StringBuilder eighty = new StringBuilder();
        for (int order = 0; order < 40; order++) {
            eighty.append("r;");
        }
        fault(eighty.toString(), 80);
        fault(eighty.substring(0, 79), -6);
        fault(eighty.substring(0, 77) + ";da", -6);
        fault(eighty.substring(0, 77) + ";d;", 79);
    }

    private static void fault(String text, int due) {
        DependentReplay x = new DependentReplay();
        Check.put(x, text);
        Check.due("fault of " + text, x.fault(), due);
        Check.due("length, still", x.count(8), text.length());
        Check.due("carryOut of " + text, x.carryOut() == -3 ? 1 : 0, due == -6 ? 0 : 1);
        Check.due("length, then", x.count(8), due == -6 ? 0 : text.length());
    }

    private static void promise24Orders() {
        DependentReplay x = new DependentReplay();
        Check.due("all orders", Check.carryOut(x, "mp/a;wp=999;vp/o;dp;l0;f0;l3;n3<1;r"), 9);
        int[][] due = {{0, 15, 0}, {1, 15, 999}, {2, 15, 14}, {3, 15, -6}};
        for (int entry = 0; entry < due.length; entry++) {
            for (int what = 0; what <= 2; what++) {
                Check.due("ofEntry(" + entry + ", " + what + ")", x.ofEntry(entry, what), due[entry][what]);
            }
        }
        Check.due("lost", x.set(0), Check.setOf(3));
        Check.due("told", x.dependsOn(3), Check.setOf(1, 2));
        Check.due("a round", x.count(5), 1);
        Check.due("replayed", x.set(2), Check.setOf(0));
        Check.due("the pad is empty", x.count(8), 0);
        Check.due("and has a fault again", x.fault(), 0);
        DependentReplay y = new DependentReplay();
        Check.due("forty orders", Check.carryOut(y, "r;".repeat(39) + "r"), 40);
        Check.due("forty rounds", y.count(5), 40);
    }

    private static void promise24Errors() {
        String[] texts = {"ma/a", "wa=1", "va/b", "da", "l0", "f0", "n0<0", "n1<0"};
        for (String text : texts) {
            DependentReplay x = new DependentReplay();
            Check.due("none of " + text, Check.carryOut(x, text + ";mb/a;r"), 0);
            Check.due("no entry", x.count(0), 0);
            Check.due("no round", x.count(5), 0);
            Check.due("the pad is empty", x.count(8), 0);
            Check.due("a change, too", x.count(9), 1);
        }
        DependentReplay x = new DependentReplay();
        Check.due("up to the error", Check.carryOut(x, "mb/a;l0;l0;r"), 2);
        Check.due("what came before it stays", x.set(0), Check.setOf(0));
        Check.due("what comes behind it is not done", x.count(5), 0);
        Check.due("found, and not once more", Check.carryOut(x, "f0;f0"), 1);
        Check.due("an entry that is not earlier", Check.carryOut(x, "mc/a;n0<1;r"), 1);
        Check.due("a high number", Check.carryOut(x, "r;l999"), 1);
    }

    private static void promise24Fault() {
        DependentReplay x = Check.after("mb/a;r");
        Check.put(x, "mc/a;");
        Check.refused("carryOut of a text with a fault", x, -3, y -> y.carryOut());
        Check.put(x, "r");
        Check.due("the pad has stayed", x.count(8), 6);
        Check.due("it can be mended", x.carryOut(), 2);
        Check.due("an empty pad", x.carryOut(), -3);
    }

    private static void promise24OneChange() {
        DependentReplay x = new DependentReplay();
        x.make(1, 0);
        Check.carryOut(x, "mc/a;md/a;r;l0;l0");
        Check.due("two changes", x.count(9), 2);
        Check.due("undone at once", x.undo(), 1);
        Check.due("entries", x.count(0), 1);
        Check.due("lost", x.count(1), 0);
        Check.due("rounds", x.count(5), 0);
        Check.due("the pad stays empty", x.count(8), 0);
    }
}
