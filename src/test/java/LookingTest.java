/** Promises 12 to 16: what there is. */
public final class LookingTest {
    public static void main(String[] arguments) {
        promise12OfEntry();
        promise12Wrong();
        promise13DependsOn();
        promise14OfFile();
        promise14Wrong();
        promise15Count();
        promise16Set();
        lookingChangesNothing();
        Check.end();
    }

    private static void promise12OfEntry() {
        DependentReplay x = Check.after("mb/a;mc/b;wc=42;vb/c;db;md/a;l2;r;r;r");
        int[][] due = {
            {0, 1, 0, 0, 0, 0, 0, 0, 4},
            {0, 2, 1, 0, 0, 1, 0, 1, 3},
            {1, 2, 42, 1, 0, -6, -6, 1, 2},
            {2, 1, 2, 0, 1, -6, -6, 2, 1},
            {3, 1, -6, 0, 1, -6, -6, 2, 0},
            {0, 3, 0, 0, 0, 0, 0, 0, 0},
        };
        for (int entry = 0; entry < due.length; entry++) {
            for (int what = 0; what <= 8; what++) {
                Check.due("ofEntry(" + entry + ", " + what + ")", x.ofEntry(entry, what), due[entry][what]);
            }
        }
        x.lose(1);
        Check.due("a lost one that leans on a lost one is no orphan", x.ofEntry(2, 4), 0);
        Check.due("lost ones lean, too", x.ofEntry(0, 8), 4);
        DependentReplay z = Check.after("mb/a");
        Check.due("no round was made yet", z.ofEntry(0, 5), -6);
        Check.due("nor was it refused or done", z.ofEntry(0, 6), -6);
        DependentReplay y = Check.after("wb=1;r;r;mb/a;r");
        Check.due("refused in round 0", y.ofEntry(0, 5), 0);
        Check.due("why", y.ofEntry(0, 6), 2);
        Check.due("an empty round between", y.ofEntry(1, 5), 2);
    }

    private static void promise12Wrong() {
        DependentReplay x = Check.after("mb/a;r");
        Check.due("no such entry", x.ofEntry(1, 0), -1);
        Check.due("entry -1", x.ofEntry(-1, 0), -1);
        Check.due("entry 40", x.ofEntry(40, 0), -1);
        Check.due("what 9", x.ofEntry(0, 9), -2);
        Check.due("what -1", x.ofEntry(0, -1), -2);
        Check.due("the entry first", x.ofEntry(1, 9), -1);
        Check.due("an empty log", new DependentReplay().ofEntry(0, 0), -1);
    }

    private static void promise13DependsOn() {
        DependentReplay x = Check.after("mb/a;mc/b;wc=1;vb/c;n3<2;n3<1");
        Check.due("none", x.dependsOn(0), 0);
        Check.due("one", x.dependsOn(1), Check.setOf(0));
        Check.due("not what it leans on besides", x.dependsOn(2), Check.setOf(1));
        Check.due("told ones, too", x.dependsOn(3), Check.setOf(0, 1, 2));
        Check.due("no such entry", x.dependsOn(4), -1);
        Check.due("entry -1", x.dependsOn(-1), -1);
        Check.due("entry 64", x.dependsOn(64), -1);
    }

    private static void promise14OfFile() {
        DependentReplay x = new DependentReplay();
        int[] newRoot = {1, -6, 0, 0, 0, 0};
        int[] notThere = {0, -6, -6, 0, -6, 0};
        ofFile(x, 0, newRoot);
        ofFile(x, 15, notThere);
        Check.carryOut(x, "mb/a;mc/b;md/b;me/d;we=999;mp/a;wp=0;r;r;r;r");
        ofFile(x, 0, new int[] {1, -6, 0, (int) Check.setOf(1, 15), 0, 5});
        ofFile(x, 1, new int[] {1, 0, 0, (int) Check.setOf(2, 3), 1, 3});
        ofFile(x, 2, new int[] {1, 1, 0, 0, 2, 0});
        ofFile(x, 3, new int[] {1, 1, 0, (int) Check.setOf(4), 2, 1});
        ofFile(x, 4, new int[] {1, 3, 999, 0, 3, 0});
        ofFile(x, 15, new int[] {1, 0, 0, 0, 1, 0});
        ofFile(x, 5, notThere);
        Check.carryOut(x, "de;r");
        ofFile(x, 4, notThere);
        ofFile(x, 3, new int[] {1, 1, 0, 0, 2, 0});
        deepTree();
    }

    /** A chain of all files, one in the other. */
    private static void deepTree() {
        DependentReplay x = new DependentReplay();
        for (int file = 1; file <= 15; file++) {
            x.make(file, file - 1);
        }
        x.replay();
        Check.due("above the lowest", x.ofFile(15, 4), 15);
        Check.due("below the root", x.ofFile(0, 5), 15);
        Check.due("below file 1", x.ofFile(1, 5), 14);
        Check.due("in file 14", x.ofFile(14, 3), 1 << 15);
        x.move(1, 15);
        x.replay();
        Check.due("into the lowest", x.ofEntry(15, 6), 4);
        x.move(15, 0);
        x.replay();
        x.move(2, 15);
        x.replay();
        Check.due("all in the last", x.ofFile(15, 5), 13);
        Check.due("above file 14", x.ofFile(14, 4), 14);
    }

    private static void ofFile(DependentReplay x, int file, int[] due) {
        for (int what = 0; what <= 5; what++) {
            Check.due("ofFile(" + file + ", " + what + ")", x.ofFile(file, what), due[what]);
        }
    }

    private static void promise14Wrong() {
        DependentReplay x = new DependentReplay();
        Check.due("file -1", x.ofFile(-1, 0), -1);
        Check.due("file 16", x.ofFile(16, 0), -1);
        Check.due("what -1", x.ofFile(0, -1), -2);
        Check.due("what 6", x.ofFile(0, 6), -2);
        Check.due("what 6 of a file that is not there", x.ofFile(1, 6), -2);
        Check.due("the file first", x.ofFile(16, 6), -1);
    }

    private static void promise15Count() {
        DependentReplay x = Check.after("mb/a;mc/b;md/b;mb/a;wb=1;me/a;l5;l3;r;r;r");
        Check.put(x, "xyz");
        int[] due = {6, 2, 1, 3, 0, 3, 4, 2, 3, 1};
        for (int what = 0; what <= 9; what++) {
            Check.due("count(" + what + ")", x.count(what), due[what]);
        }
        Check.due("count(-1)", x.count(-1), -2);
        Check.due("count(10)", x.count(10), -2);
        x.find(3);
        x.replay();
        Check.due("refused", x.count(4), 1);
        Check.due("the widest round", x.count(7), 3);
        Check.due("changes", x.count(9), 3);
    }

    private static void promise16Set() {
        DependentReplay x = Check.after("mb/a;mb/a;mc/b;md/a;we=1;l1;r");
        Check.due("lost", x.set(0), Check.setOf(1));
        Check.due("orphans", x.set(1), Check.setOf(2));
        Check.due("replayed", x.set(2), Check.setOf(0, 3, 4));
        Check.due("refused", x.set(3), Check.setOf(4));
        Check.due("ready", x.set(4), 0);
        x.find(1);
        Check.due("ready at first", x.set(4), Check.setOf(0, 3, 4));
        x.round();
        Check.due("ready then", x.set(4), Check.setOf(1));
        x.write(3, 4);
        Check.due("ready as written", x.set(4), Check.setOf(1, 5));
        Check.due("set(-1)", x.set(-1), -2);
        Check.due("set(5)", x.set(5), -2);
    }

    private static void lookingChangesNothing() {
        DependentReplay x = Check.after("mb/a;mc/b;wc=1;l1;r");
        Check.put(x, "mb/");
        String before = Check.all(x);
        Check.due("all, looked at twice", Check.all(x), before);
    }
}
