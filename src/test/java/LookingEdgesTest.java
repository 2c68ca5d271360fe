/** The boundary cases of promises 12 to 16. */
public final class LookingEdgesTest {
    public static void main(String[] arguments) throws Exception {
        Edges.run(LookingEdgesTest.class);
    }

    // ---- ofEntry

    @Holds(at = "Promise 12", sentence = "0 its kind, 1 its file")
    static void kindAndFile() {
        DependentReplay x = Check.after("mb/a;wp=0;vb/a;dp");
        for (int entry = 0; entry <= 3; entry++) {
            Check.due("the kind of entry " + entry, x.ofEntry(entry, 0), entry);
            Check.due("the file of entry " + entry, x.ofEntry(entry, 1), entry % 2 == 0 ? 1 : 15);
        }
    }

    @Holds(at = "Promise 12", sentence = "2 its directory or value (NONE for a DROP)")
    static void directoryOrValue() {
        DependentReplay x = Check.after("mb/a;mb/p;wb=0;wb=999;vb/a;vb/p;db");
        int[] due = {0, 15, 0, 999, 0, 15, -6};
        for (int entry = 0; entry < due.length; entry++) {
            Check.due("ofEntry(" + entry + ", 2)", x.ofEntry(entry, 2), due[entry]);
        }
    }

    @Holds(at = "Promise 12", sentence = "3 whether it is lost (1 or 0)")
    static void whetherLost() {
        DependentReplay x = Edges.chain(Edges.ENTRIES);
        Check.due("none is", x.ofEntry(0, 3), 0);
        x.lose(0);
        x.lose(39);
        int[] due = {1, 0, 0, 1};
        int[] entries = {0, 1, 38, 39};
        for (int i = 0; i < entries.length; i++) {
            Check.due("ofEntry(" + entries[i] + ", 3)", x.ofEntry(entries[i], 3), due[i]);
        }
        x.find(0);
        Check.due("found again", x.ofEntry(0, 3), 0);
    }

    @Holds(at = "Promise 12", sentence = "4 whether it is an orphan (1 or 0)")
    static void whetherAnOrphan() {
        DependentReplay x = Edges.chain(Edges.ENTRIES);
        Check.due("none is", x.ofEntry(39, 4), 0);
        x.lose(1);
        x.lose(38);
        int[] due = {0, 0, 1, 0, 1};
        int[] entries = {0, 1, 2, 38, 39};
        for (int i = 0; i < entries.length; i++) {
            Check.due("ofEntry(" + entries[i] + ", 4)", x.ofEntry(entries[i], 4), due[i]);
        }
    }

    @Holds(at = "Promise 12", sentence = "5 the round in which it was replayed, from 0 on (NONE if it was not)")
    static void roundOfAnEntry() {
        DependentReplay x = Check.after("mb/a;wb=1;l1");
        Check.due("not yet", x.ofEntry(0, 5), -6);
        x.replay();
        Check.due("in the first", x.ofEntry(0, 5), 0);
        Check.due("a lost one", x.ofEntry(1, 5), -6);
        DependentReplay y = new DependentReplay();
        for (int round = 0; round < 100; round++) {
            y.round();
        }
        y.make(1, 0);
        y.round();
        Check.due("after a hundred empty ones", y.ofEntry(0, 5), 100);
        y.beginAnew();
        Check.due("begun anew", y.ofEntry(0, 5), -6);
    }

    @Holds(at = "Promise 12", sentence = "6 why it was refused, 1 to 5, 0 if it was done (NONE if it was not replayed)")
    static void reasonOfAnEntry() {
        DependentReplay x = Check.after("mb/a;mb/a;wc=1;md/p;vb/b;mp/b;r");
        Check.due("not replayed yet", x.ofEntry(1, 6), -6);
        x.replay();
        Edges.reasons(x, 0, 1, 2, 3, 4, 0);
        x.drop(1);
        Check.due("written only", x.ofEntry(6, 6), -6);
        x.replay();
        Check.due("a drop with a file in it", x.ofEntry(6, 6), 5);
        x.lose(6);
        Check.due("lost", x.ofEntry(6, 6), -6);
    }

    @Holds(at = "Promise 12", sentence = "7 how many entries it depends on")
    static void numberOfNeeds() {
        DependentReplay x = Edges.chain(Edges.ENTRIES);
        Check.due("none", x.ofEntry(0, 7), 0);
        Check.due("one", x.ofEntry(39, 7), 1);
        for (int earlier = 0; earlier < 39; earlier++) {
            x.need(39, earlier);
        }
        Check.due("all earlier ones", x.ofEntry(39, 7), 39);
        Check.due("two", Check.after("mb/a;mc/b;db").ofEntry(2, 7), 2);
    }

    @Holds(at = "Promise 12", sentence = "8 how many lean on it (lost ones, too)")
    static void numberOfLeaning() {
        DependentReplay x = Edges.chain(Edges.ENTRIES);
        Check.due("all others", x.ofEntry(0, 8), 39);
        Check.due("one", x.ofEntry(38, 8), 1);
        Check.due("none", x.ofEntry(39, 8), 0);
        x.lose(0);
        x.lose(20);
        x.lose(39);
        Check.due("all others, still", x.ofEntry(0, 8), 39);
        Check.due("a lost one alone", x.ofEntry(38, 8), 1);
    }

    @Holds(at = "Promise 12", sentence = "NO_SUCH if there is no such entry")
    static void ofNoEntry() {
        Check.due("in an empty log", new DependentReplay().ofEntry(0, 0), -1);
        DependentReplay x = Edges.chain(Edges.ENTRIES);
        Check.due("the last one", x.ofEntry(39, 0), 1);
        for (int what = -1; what <= 9; what++) {
            Check.due("ofEntry(40, " + what + ")", x.ofEntry(40, what), -1);
        }
        for (int none : Edges.FAR_OFF) {
            Check.due("ofEntry(" + none + ", 0)", x.ofEntry(none, 0), -1);
        }
    }

    @Holds(at = "Promise 12", sentence = "BAD_VALUE if what is out of range")
    static void ofEntryOutOfRange() {
        DependentReplay x = Check.after("mb/a");
        Check.due("ofEntry(0, 8)", x.ofEntry(0, 8), 0);
        Check.due("ofEntry(0, 9)", x.ofEntry(0, 9), -2);
        for (int what : Edges.FAR_OFF) {
            Check.due("ofEntry(0, " + what + ")", x.ofEntry(0, what), -2);
        }
    }

    // ---- dependsOn

    @Holds(at = "Promise 13", sentence = "Returns the set")
    static void smallestAndLargestSet() {
        DependentReplay x = Edges.chain(Edges.ENTRIES);
        Check.due("the first one", x.dependsOn(0), 0);
        for (int earlier = 0; earlier < 39; earlier++) {
            x.need(39, earlier);
        }
        Check.due("the last one", x.dependsOn(39), Edges.entries(0, 38));
    }

    @Holds(at = "Promise 13", sentence = "-1 if there is no such entry")
    static void dependsOnOfNoEntry() {
        Check.due("in an empty log", new DependentReplay().dependsOn(0), -1);
        DependentReplay x = Edges.chain(Edges.ENTRIES);
        Check.due("dependsOn(40)", x.dependsOn(40), -1);
        for (int none : Edges.FAR_OFF) {
            Check.due("dependsOn(" + none + ")", x.dependsOn(none), -1);
        }
        x.undo();
        Check.due("one that was undone", x.dependsOn(39), -1);
    }

    // ---- ofFile

    @Holds(at = "Promise 14", sentence = "0 whether it is there (1 or 0)")
    static void whetherThere() {
        DependentReplay x = Check.after("mp/a;r");
        Check.due("the root", x.ofFile(0, 0), 1);
        Check.due("the lowest file", x.ofFile(1, 0), 0);
        Check.due("the highest file", x.ofFile(15, 0), 1);
    }

    @Holds(at = "Promise 14", sentence = "1 its directory (NONE if it is the root, or not there)")
    static void directoryOfAFile() {
        DependentReplay x = Edges.deepTree();
        Check.due("the root", x.ofFile(0, 1), -6);
        Check.due("in the root", x.ofFile(1, 1), 0);
        Check.due("the deepest", x.ofFile(15, 1), 14);
        x.drop(15);
        Check.due("written only", x.ofFile(15, 1), 14);
        x.replay();
        Check.due("dropped", x.ofFile(15, 1), -6);
        Check.due("never there", new DependentReplay().ofFile(15, 1), -6);
    }

    @Holds(at = "Promise 14", sentence = "2 its value (NONE if it is not there; that of the root is 0)")
    static void valueOfAFile() {
        DependentReplay x = Check.after("mb/a;wb=999;r");
        Check.due("the root", x.ofFile(0, 2), 0);
        Check.due("made", x.ofFile(1, 2), 0);
        Check.due("not there", x.ofFile(15, 2), -6);
        x.round();
        Check.due("the highest", x.ofFile(1, 2), 999);
        x.drop(1);
        x.round();
        Check.due("dropped", x.ofFile(1, 2), -6);
    }

    @Holds(at = "Promise 14", sentence = "3 the files that lie in it, as a set")
    static void filesInAFile() {
        DependentReplay x = Edges.wideLog();
        Check.due("none", x.ofFile(0, 3), 0);
        x.replay();
        Check.due("all", x.ofFile(0, 3), 0xfffe);
        Check.due("none in the highest", x.ofFile(15, 3), 0);
        DependentReplay y = Edges.deepTree();
        Check.due("not those deeper", y.ofFile(0, 3), Check.setOf(1));
        Check.due("none in one that is not there", new DependentReplay().ofFile(1, 3), 0);
    }

    @Holds(at = "Promise 14", sentence = "4 how many directories there are above it, with the root (0 for the root; NONE if it is not there)")
    static void directoriesAbove() {
        DependentReplay x = Edges.deepTree();
        for (int file = 0; file <= 15; file++) {
            Check.due("above file " + file, x.ofFile(file, 4), file);
        }
        x.beginAnew();
        Check.due("above the root alone", x.ofFile(0, 4), 0);
        Check.due("not there any more", x.ofFile(1, 4), -6);
        Check.due("never there", new DependentReplay().ofFile(15, 4), -6);
    }

    @Holds(at = "Promise 14", sentence = "5 how many files lie in it, in these, and so on (0 if it is not there)")
    static void filesBelow() {
        DependentReplay x = Edges.deepTree();
        for (int file = 0; file <= 15; file++) {
            Check.due("below file " + file, x.ofFile(file, 5), 15 - file);
        }
        x.beginAnew();
        Check.due("below the root alone", x.ofFile(0, 5), 0);
        Check.due("not there any more", x.ofFile(1, 5), 0);
        DependentReplay y = Edges.wideLog();
        y.replay();
        Check.due("side by side", y.ofFile(0, 5), 15);
        Check.due("in none of them", y.ofFile(8, 5), 0);
    }

    @Holds(at = "Promise 14", sentence = "NO_SUCH if file is not 0 to 15")
    static void ofNoFile() {
        DependentReplay x = Edges.deepTree();
        for (int what = -1; what <= 6; what++) {
            Check.due("ofFile(16, " + what + ")", x.ofFile(16, what), -1);
            Check.due("ofFile(-1, " + what + ")", x.ofFile(-1, what), -1);
        }
        for (int none : new int[] {32, 64, Integer.MIN_VALUE, Integer.MAX_VALUE}) {
            Check.due("ofFile(" + none + ", 0)", x.ofFile(none, 0), -1);
        }
    }

    @Holds(at = "Promise 14", sentence = "BAD_VALUE if what is out of range")
    static void ofFileOutOfRange() {
        DependentReplay x = new DependentReplay();
        Check.due("ofFile(0, 6)", x.ofFile(0, 6), -2);
        Check.due("ofFile(15, 6), which is not there", x.ofFile(15, 6), -2);
        for (int what : Edges.FAR_OFF) {
            Check.due("ofFile(0, " + what + ")", x.ofFile(0, what), -2);
            Check.due("ofFile(15, " + what + ")", x.ofFile(15, what), -2);
        }
    }

    // ---- count

    @Holds(at = "Promise 15", sentence = "0 entries, 1 lost ones, 2 orphans, 3 replayed ones, 4 of these refused ones, 5 rounds that were made")
    static void countOfAFullLog() {
        counts("an empty log", new DependentReplay(), 0, 0, 0, 0, 0, 0);
        DependentReplay x = Edges.chain(Edges.ENTRIES);
        counts("as written", x, 40, 0, 0, 0, 0, 0);
        x.replay();
        counts("all replayed, and refused", x, 40, 0, 0, 40, 40, 40);
        x.lose(0);
        counts("the first one lost", x, 40, 1, 39, 0, 0, 0);
        for (int entry = 1; entry < Edges.ENTRIES; entry++) {
            x.lose(entry);
        }
        counts("all lost", x, 40, 40, 0, 0, 0, 0);
        for (int round = 0; round < 50; round++) {
            x.round();
        }
        counts("more rounds than entries", x, 40, 40, 0, 0, 0, 50);
    }

    private static void counts(String when, DependentReplay x, int... due) {
        for (int what = 0; what < due.length; what++) {
            Check.due("count(" + what + ") of " + when, x.count(what), due[what]);
        }
    }

    @Holds(at = "Promise 15", sentence = "4 of these refused ones")
    static void refusedOnes() {
        DependentReplay x = Check.after("mb/a;mb/a;wc=1;mb/a;l3;r");
        Check.due("one of those that were replayed", x.count(4), 1);
        x.round();
        Check.due("not the lost one", x.count(4), 2);
    }

    @Holds(at = "Promise 15", sentence = "6 files that are there (with the root)")
    static void numberOfFiles() {
        DependentReplay x = new DependentReplay();
        Check.due("the root alone", x.count(6), 1);
        Check.due("all", Edges.deepTree().count(6), 16);
        Check.carryOut(x, "mb/a;db;r");
        Check.due("one more", x.count(6), 2);
        x.round();
        Check.due("dropped", x.count(6), 1);
    }

    @Holds(at = "Promise 15", sentence = "7 how many entries were replayed in the widest round")
    static void widestRound() {
        DependentReplay x = new DependentReplay();
        Check.due("no round", x.count(7), 0);
        x.round();
        Check.due("an empty round", x.count(7), 0);
        Check.carryOut(x, "mb/a;mc/a;r;wb=1;r");
        Check.due("the one before is wider", x.count(7), 2);
        Check.carryOut(x, "wb=2;wc=2;md/a;r");
        Check.due("the last is wider", x.count(7), 3);
        x.beginAnew();
        Check.due("begun anew", x.count(7), 0);
        DependentReplay y = Edges.wideLog();
        y.round();
        Check.due("the widest of all", y.count(7), 15);
    }

    @Holds(at = "Promise 15", sentence = "8 the length of the pad")
    static void lengthOfThePad() {
        Check.due("empty", new DependentReplay().count(8), 0);
        DependentReplay x = Edges.fullPad();
        Check.due("full", x.count(8), 80);
        x.put('r');
        Check.due("full, still", x.count(8), 80);
        x.wipe();
        Check.due("wiped", x.count(8), 0);
    }

    @Holds(at = "Promise 15", sentence = "9 how many changes can be undone")
    static void changesToUndo() {
        DependentReplay x = new DependentReplay();
        for (int change = 0; change <= 10; change++) {
            Check.due("after " + change, x.count(9), Math.min(change, 6));
            x.round();
        }
    }

    @Holds(at = "Promise 15", sentence = "BAD_VALUE if what is out of range")
    static void countOutOfRange() {
        DependentReplay x = Check.after("mb/a;r");
        Check.due("count(9)", x.count(9), 1);
        Check.due("count(10)", x.count(10), -2);
        for (int what : Edges.FAR_OFF) {
            Check.due("count(" + what + ")", x.count(what), -2);
        }
    }

    // ---- set

    @Holds(at = "Promise 16", sentence = "0 lost ones, 1 orphans, 2 replayed ones, 3 refused ones, 4 those that are ready")
    static void setsOfAFullLog() {
        sets("an empty log", new DependentReplay(), 0, 0, 0, 0, 0);
        DependentReplay x = Edges.chain(Edges.ENTRIES);
        sets("as written", x, 0, 0, 0, 0, 1);
        x.replay();
        sets("all replayed, and refused", x, 0, 0, Edges.ALL_ENTRIES, Edges.ALL_ENTRIES, 0);
        x.lose(0);
        sets("the first one lost", x, 1, Edges.entries(1, 39), 0, 0, 0);
        for (int entry = 1; entry < Edges.ENTRIES; entry++) {
            x.lose(entry);
        }
        sets("all lost", x, Edges.ALL_ENTRIES, 0, 0, 0, 0);
    }

    private static void sets(String when, DependentReplay x, long... due) {
        for (int what = 0; what < due.length; what++) {
            Check.due("set(" + what + ") of " + when, x.set(what), due[what]);
        }
    }

    @Holds(at = "Promise 16", sentence = "4 those that are ready")
    static void readyOnes() {
        DependentReplay x = Edges.wideLog();
        Check.due("all", x.set(4), Edges.entries(0, 14));
        x.lose(14);
        Check.due("not the lost one", x.set(4), Edges.entries(0, 13));
        x.write(15, 1);
        Check.due("nor its orphan", x.set(4), Edges.entries(0, 13));
        x.round();
        Check.due("nor those that were replayed", x.set(4), 0);
        DependentReplay y = Edges.chain(Edges.ENTRIES);
        for (int round = 0; round < 39; round++) {
            y.round();
        }
        Check.due("the last one of a full log", y.set(4), 1L << 39);
    }

    @Holds(at = "Promise 16", sentence = "-2 if what is out of range")
    static void setOutOfRange() {
        DependentReplay x = Check.after("mb/a;r");
        Check.due("set(4)", x.set(4), 0);
        Check.due("set(5)", x.set(5), -2);
        for (int what : Edges.FAR_OFF) {
            Check.due("set(" + what + ")", x.set(what), -2);
        }
    }
}
