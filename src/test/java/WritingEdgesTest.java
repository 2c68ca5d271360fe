/** The boundary cases of promises 2 to 6. */
public final class WritingEdgesTest {
    /** None is a file; 16 and -1 are the nearest ones. */
    private static final int[] NO_FILES = {-1, 16, 32, Integer.MIN_VALUE, Integer.MAX_VALUE};

    public static void main(String[] arguments) throws Exception {
        Edges.run(WritingEdgesTest.class);
    }

    // ---- make

    @Holds(at = "Promise 2", sentence = "`file`: 1 to 15")
    static void lowestAndHighestFile() {
        DependentReplay x = new DependentReplay();
        Check.due("make(0, 0)", x.make(0, 0), -1);
        Check.due("make(1, 0)", x.make(1, 0), 0);
        Check.due("make(15, 0)", x.make(15, 0), 1);
        Check.due("make(16, 0)", x.make(16, 0), -1);
        Check.due("the file of entry 0", x.ofEntry(0, 1), 1);
        Check.due("the file of entry 1", x.ofEntry(1, 1), 15);
    }

    @Holds(at = "Promise 2", sentence = "`directory`: 0 to 15")
    static void lowestAndHighestDirectory() {
        DependentReplay x = new DependentReplay();
        Check.due("make(1, -1)", x.make(1, -1), -1);
        Check.due("make(1, 0)", x.make(1, 0), 0);
        Check.due("make(1, 15)", x.make(1, 15), 1);
        Check.due("make(1, 16)", x.make(1, 16), -1);
        Check.due("the directory of entry 0", x.ofEntry(0, 2), 0);
        Check.due("the directory of entry 1", x.ofEntry(1, 2), 15);
    }

    @Holds(at = "Promise 2", sentence = "NO_SUCH if a file is out of range")
    static void makeOutOfRange() {
        DependentReplay x = new DependentReplay();
        for (int none : NO_FILES) {
            Check.due("make(" + none + ", 0)", x.make(none, 0), -1);
            Check.due("make(1, " + none + ")", x.make(1, none), -1);
            Check.due("make(" + none + ", " + none + ")", x.make(none, none), -1);
        }
        Check.due("entries", x.count(0), 0);
        Check.due("changes", x.count(9), 0);
    }

    @Holds(at = "Promise 2", sentence = "TOO_MANY if there are 40 entries")
    static void makeInAFullLog() {
        DependentReplay x = Edges.chain(39);
        Check.due("the last one", x.make(2, 0), 39);
        Check.due("one too many", x.make(3, 0), -4);
        x.lose(39);
        Check.due("lost ones count, too", x.make(3, 0), -4);
        Check.due("entries", x.count(0), 40);
    }

    @Holds(at = "Promise 2", sentence = "Returns the number of the entry")
    static void makeReturnsTheNumber() {
        DependentReplay x = new DependentReplay();
        for (int entry = 0; entry < Edges.ENTRIES; entry++) {
            Check.due("make", x.make(1 + entry % 15, 0), entry);
        }
        x.undo();
        x.undo();
        Check.due("make after two that were undone", x.make(1, 0), 38);
    }

    @Holds(at = "Promise 2", sentence = "This is a change.")
    static void makeIsAChange() {
        aChange("make(3, 0)", y -> y.make(3, 0));
    }

    // ---- write

    @Holds(at = "Promise 3", sentence = "`value`: 0 to 999")
    static void lowestAndHighestValue() {
        DependentReplay x = new DependentReplay();
        Check.due("write(1, -1)", x.write(1, -1), -2);
        Check.due("write(1, 0)", x.write(1, 0), 0);
        Check.due("write(1, 999)", x.write(1, 999), 1);
        Check.due("write(1, 1000)", x.write(1, 1000), -2);
        Check.due("the value of entry 0", x.ofEntry(0, 2), 0);
        Check.due("the value of entry 1", x.ofEntry(1, 2), 999);
    }

    @Holds(at = "Promise 3", sentence = "NO_SUCH if file is out of range")
    static void writeOutOfRange() {
        DependentReplay x = new DependentReplay();
        Check.due("write(0, 0)", x.write(0, 0), -1);
        for (int none : NO_FILES) {
            Check.due("write(" + none + ", 0)", x.write(none, 0), -1);
            Check.due("write(" + none + ", 1000)", x.write(none, 1000), -1);
        }
        Check.due("write(1, 0)", x.write(1, 0), 0);
        Check.due("write(15, 0)", x.write(15, 0), 1);
    }

    @Holds(at = "Promise 3", sentence = "BAD_VALUE if value is out of range")
    static void writeABadValue() {
        DependentReplay x = Edges.chain(38);
        for (int value : new int[] {-1, 1000, 1024, Integer.MIN_VALUE, Integer.MAX_VALUE}) {
            Check.due("write(1, " + value + ")", x.write(1, value), -2);
        }
        x.write(1, 0);
        x.write(1, 0);
        Check.due("before TOO_MANY", x.write(1, 1000), -2);
    }

    @Holds(at = "Promise 3", sentence = "TOO_MANY if there are 40 entries")
    static void writeInAFullLog() {
        DependentReplay x = Edges.chain(39);
        Check.due("the last one", x.write(2, 0), 39);
        Check.due("one too many", x.write(2, 0), -4);
        Check.due("entries", x.count(0), 40);
    }

    @Holds(at = "Promise 3", sentence = "This is a change.")
    static void writeIsAChange() {
        aChange("write(1, 5)", y -> y.write(1, 5));
    }

    // ---- move

    @Holds(at = "Promise 4", sentence = "Returns the number of the entry; errors as for make().")
    static void moveOutOfRange() {
        DependentReplay x = new DependentReplay();
        Check.due("move(0, 1)", x.move(0, 1), -1);
        for (int none : NO_FILES) {
            Check.due("move(" + none + ", 0)", x.move(none, 0), -1);
            Check.due("move(1, " + none + ")", x.move(1, none), -1);
        }
        Check.due("move(1, 0)", x.move(1, 0), 0);
        Check.due("move(15, 15)", x.move(15, 15), 1);
        Check.due("the file of entry 1", x.ofEntry(1, 1), 15);
        Check.due("the directory of entry 1", x.ofEntry(1, 2), 15);
        Check.due("the directory of entry 0", x.ofEntry(0, 2), 0);
    }

    @Holds(at = "Promise 4", sentence = "errors as for make()")
    static void moveInAFullLog() {
        DependentReplay x = Edges.chain(39);
        Check.due("the last one", x.move(2, 0), 39);
        Check.due("one too many", x.move(2, 0), -4);
        Check.due("a wrong directory first", x.move(2, 16), -1);
        Check.due("entries", x.count(0), 40);
    }

    @Holds(at = "Promise 4", sentence = "This is a change.")
    static void moveIsAChange() {
        aChange("move(2, 0)", y -> y.move(2, 0));
    }

    // ---- drop

    @Holds(at = "Promise 5", sentence = "NO_SUCH if file is out of range")
    static void dropOutOfRange() {
        DependentReplay x = new DependentReplay();
        Check.due("drop(0)", x.drop(0), -1);
        for (int none : NO_FILES) {
            Check.due("drop(" + none + ")", x.drop(none), -1);
        }
        Check.due("drop(1)", x.drop(1), 0);
        Check.due("drop(15)", x.drop(15), 1);
        Check.due("the file of entry 1", x.ofEntry(1, 1), 15);
    }

    @Holds(at = "Promise 5", sentence = "TOO_MANY if there are 40 entries")
    static void dropInAFullLog() {
        DependentReplay x = Edges.chain(39);
        Check.due("the last one", x.drop(2), 39);
        Check.due("one too many", x.drop(2), -4);
        Check.due("a wrong file first", x.drop(0), -1);
        Check.due("entries", x.count(0), 40);
    }

    @Holds(at = "Promise 5", sentence = "This is a change.")
    static void dropIsAChange() {
        aChange("drop(2)", y -> y.drop(2));
    }

    // ---- need

    @Holds(at = "Promise 6", sentence = "Tells that an entry depends on an earlier one, too (also if it does already).")
    static void needOnceMore() {
        DependentReplay x = Check.after("mb/a;mc/a;wb=1;r");
        Check.due("it does by itself", x.need(2, 0), 1);
        Check.due("it did not", x.need(2, 1), 2);
        Check.due("it was told", x.need(2, 1), 2);
        Check.due("dependsOn(2)", x.dependsOn(2), Check.setOf(0, 1));
        Check.due("changes", x.count(9), 4);
    }

    @Holds(at = "Promise 6", sentence = "Tells that an entry depends on an earlier one, too")
    static void needOfLostOnes() {
        DependentReplay x = Check.after("mb/a;mc/a;md/a;l0;l2");
        Check.due("on a lost one", x.need(1, 0), 1);
        Check.due("of a lost one", x.need(2, 1), 1);
        Check.due("orphans", x.set(1), Check.setOf(1));
        Check.due("wants(2)", x.wants(2), Check.setOf(0, 2));
    }

    @Holds(at = "Promise 6", sentence = "Returns how many entries it depends on then")
    static void fewestAndMostNeeds() {
        Check.due("one", Check.after("mb/a;mc/a").need(1, 0), 1);
        DependentReplay x = Edges.chain(Edges.ENTRIES);
        for (int earlier = 37; earlier >= 0; earlier--) {
            Check.due("need(39, " + earlier + ")", x.need(39, earlier), 39 - earlier);
        }
        Check.due("as told", x.ofEntry(39, 7), 39);
    }

    @Holds(at = "Promise 6", sentence = "NO_SUCH if there is no such entry")
    static void needOfNoEntry() {
        Check.due("in an empty log", new DependentReplay().need(0, 0), -1);
        DependentReplay x = Check.after("mb/a;mc/a");
        Check.due("need(2, 0)", x.need(2, 0), -1);
        Check.due("need(1, 2)", x.need(1, 2), -1);
        Check.due("need(2, 2)", x.need(2, 2), -1);
        for (int none : Edges.FAR_OFF) {
            Check.due("need(" + none + ", 0)", x.need(none, 0), -1);
            Check.due("need(1, " + none + ")", x.need(1, none), -1);
        }
        Check.due("need(40, 0) in a full log", Edges.chain(Edges.ENTRIES).need(40, 0), -1);
        Check.due("need(39, 40) in a full log", Edges.chain(Edges.ENTRIES).need(39, 40), -1);
    }

    @Holds(at = "Promise 6", sentence = "NOT_POSSIBLE if the other one is not earlier")
    static void needOfNoEarlierOne() {
        DependentReplay x = Edges.chain(Edges.ENTRIES);
        Check.due("the first on itself", x.need(0, 0), -5);
        Check.due("the last on itself", x.need(39, 39), -5);
        Check.due("on the next", x.need(38, 39), -5);
        Check.due("the first on the last", x.need(0, 39), -5);
        Check.due("on the one before", x.need(39, 38), 1);
    }

    @Holds(at = "Promise 6", sentence = "This is a change.")
    static void needIsAChange() {
        aChange("need(1, 0)", y -> y.need(1, 0));
    }

    private static void aChange(String what, Check.Call call) {
        DependentReplay x = Check.after("mb/a;mc/b;r");
        String before = Check.state(x);
        call.on(x);
        Check.due("changes after " + what, x.count(9), 2);
        Check.due("undo", x.undo(), 1);
        Check.due("all after " + what + " and undo", Check.state(x), before);
    }
}
