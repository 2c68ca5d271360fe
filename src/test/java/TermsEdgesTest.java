/** The boundary cases of the terms: conventions, files and entries, and of promise 1. */
public final class TermsEdgesTest {
    private static final String START = "mb/a;mc/b;wc=1;l2;r";

    public static void main(String[] arguments) throws Exception {
        Edges.run(TermsEdgesTest.class);
    }

    @Holds(at = "What it is", sentence = "An object is used for at most 512 calls after it has been made")
    static void lastCall() {
        DependentReplay x = new DependentReplay();
        for (int call = 1; call <= 511; call++) {
            Check.due("call " + call, x.round(), 0);
        }
        Check.due("call 512: the rounds", x.count(5), 511);
    }

    @Holds(at = "Promise 1", sentence = "Creates an empty log.")
    static void emptyLog() {
        DependentReplay x = new DependentReplay();
        for (int what = 0; what <= 9; what++) {
            Check.due("count(" + what + ")", x.count(what), what == 6 ? 1 : 0);
        }
        for (int what = 0; what <= 4; what++) {
            Check.due("set(" + what + ")", x.set(what), 0);
        }
        Check.due("ofEntry(0, 0)", x.ofEntry(0, 0), -1);
        Check.due("fault()", x.fault(), 0);
        Check.due("undo()", x.undo(), -5);
        Check.due("restore(0)", x.restore(0), -5);
        Check.due("restore(1)", x.restore(1), -5);
    }

    // ---- conventions

    @Holds(at = "Terms", sentence = "the first one that applies is returned")
    static void firstErrorOfAFullLog() {
        DependentReplay x = Edges.chain(Edges.ENTRIES);
        Check.due("make(16, 0)", x.make(16, 0), -1);
        Check.due("make(1, 16)", x.make(1, 16), -1);
        Check.due("write(0, 1000)", x.write(0, 1000), -1);
        Check.due("write(1, 1000)", x.write(1, 1000), -2);
        Check.due("move(0, 0)", x.move(0, 0), -1);
        Check.due("move(1, -1)", x.move(1, -1), -1);
        Check.due("drop(16)", x.drop(16), -1);
        Check.due("need(40, 40)", x.need(40, 40), -1);
        Check.due("need(39, 40)", x.need(39, 40), -1);
        Check.due("ofEntry(40, 9)", x.ofEntry(40, 9), -1);
        Check.due("ofFile(16, 6)", x.ofFile(16, 6), -1);
        Check.due("restore(2), and nothing was saved", x.restore(2), -2);
    }

    @Holds(at = "Terms", sentence = "the first one that applies is returned")
    static void firstErrorOfAFullPad() {
        DependentReplay x = Edges.fullPad();
        Check.due("put(0)", x.put(0), -2);
        Check.due("put(32)", x.put(32), -2);
        Check.due("put of a gap", x.put('r' << 16 | 'r'), -2);
        Check.due("put of one more", x.put('r'), -4);
    }

    @Holds(at = "Terms", sentence = "A call that returns an error changes nothing.")
    static void refusedWritingChangesNothing() {
        refused("make(0, 0)", -1, y -> y.make(0, 0));
        refused("make(16, 0)", -1, y -> y.make(16, 0));
        refused("make(1, 16)", -1, y -> y.make(1, 16));
        refused("write(0, 0)", -1, y -> y.write(0, 0));
        refused("write(1, 1000)", -2, y -> y.write(1, 1000));
        refused("move(0, 0)", -1, y -> y.move(0, 0));
        refused("move(1, -1)", -1, y -> y.move(1, -1));
        refused("drop(0)", -1, y -> y.drop(0));
        refused("need(3, 0)", -1, y -> y.need(3, 0));
        refused("need(2, 3)", -1, y -> y.need(2, 3));
        refused("need(2, -1)", -1, y -> y.need(2, -1));
        refused("need(0, 0)", -5, y -> y.need(0, 0));
        refused("need(1, 2)", -5, y -> y.need(1, 2));
    }

    @Holds(at = "Terms", sentence = "A call that returns an error changes nothing.")
    static void otherRefusedCallsChangeNothing() {
        refused("lose(3)", -1, y -> y.lose(3));
        refused("lose(2)", -5, y -> y.lose(2));
        refused("find(3)", -1, y -> y.find(3));
        refused("find(0)", -5, y -> y.find(0));
        refused("put(0)", -2, y -> y.put(0));
        refused("put of a good character and a wrong one", -2, y -> y.put('r' << 8 | 32));
        refused("carryOut()", -3, y -> y.carryOut());
        refused("save(2)", -2, y -> y.save(2));
        refused("restore(2)", -2, y -> y.restore(2));
        refused("restore(1)", -5, y -> y.restore(1));
        Check.refused("undo()", new DependentReplay(), -5, y -> y.undo());
    }

    @Holds(at = "Terms", sentence = "A call that returns an error changes nothing.")
    static void refusedQuestionsChangeNothing() {
        refused("ofEntry(3, 0)", -1, y -> y.ofEntry(3, 0));
        refused("ofEntry(0, 9)", -2, y -> y.ofEntry(0, 9));
        refused("dependsOn(3)", -1, y -> y.dependsOn(3));
        refused("ofFile(16, 0)", -1, y -> y.ofFile(16, 0));
        refused("ofFile(0, 6)", -2, y -> y.ofFile(0, 6));
        refused("count(10)", -2, y -> y.count(10));
        refused("set(5)", -2, y -> y.set(5));
        refused("depth(3)", -1, y -> y.depth(3));
        refused("wants(3)", -1, y -> y.wants(3));
        refused("worst(2)", -2, y -> y.worst(2));
    }

    @Holds(at = "Terms", sentence = "A call that returns an error changes nothing.")
    static void fullLogRefusesAndStays() {
        Edges.refusedBriefly("make", Edges.chain(Edges.ENTRIES), -4, y -> y.make(1, 0));
        Edges.refusedBriefly("write", Edges.chain(Edges.ENTRIES), -4, y -> y.write(1, 0));
        Edges.refusedBriefly("move", Edges.chain(Edges.ENTRIES), -4, y -> y.move(1, 0));
        Edges.refusedBriefly("drop", Edges.chain(Edges.ENTRIES), -4, y -> y.drop(1));
        Check.refused("put", Edges.fullPad(), -4, y -> y.put('r'));
    }

    @Holds(at = "Terms", sentence = "A call that returns an error changes nothing.")
    static void refusedCallsKeepSlotsAndHistory() {
        DependentReplay x = new DependentReplay();
        x.make(1, 0);
        x.save(0);
        x.make(2, 0);
        Check.due("save(2)", x.save(2), -2);
        Check.due("save(-1)", x.save(-1), -2);
        Check.due("lose(2)", x.lose(2), -1);
        Check.due("restore(1)", x.restore(1), -5);
        Check.due("undo() takes make(2, 0) back", x.undo(), 1);
        Check.due("entries", x.count(0), 1);
        Check.due("restore(0)", x.restore(0), 1);
    }

    @Holds(at = "Terms", sentence = "A call that returns an error changes nothing.")
    static void refusedCallsKeepAFullHistory() {
        Check.Call[] calls = {y -> y.make(0, 0), y -> y.write(1, -1), y -> y.move(1, 16), y -> y.drop(0), y -> y.need(0, 0),
            y -> y.lose(7), y -> y.find(0), y -> y.restore(0), y -> y.carryOut()};
        for (Check.Call call : calls) {
            DependentReplay x = Edges.chain(7);
            Check.due("it is refused", call.on(x) < 0 ? 1 : 0, 1);
            Check.due("changes", x.count(9), 6);
            for (int left = 5; left >= 0; left--) {
                Check.due("undo", x.undo(), left);
                Check.due("entries", x.count(0), left + 1);
            }
        }
    }

    private static void refused(String what, long error, Check.Call call) {
        DependentReplay x = Check.after(START);
        Check.put(x, "mb/");
        Check.refused(what, x, error, call);
    }

    @Holds(at = "Terms", sentence = "NONE (-6) is not an error; it is returned only if no error applies.")
    static void errorsBeforeNone() {
        DependentReplay x = new DependentReplay();
        Check.due("worst(0) of no entry", x.worst(0), -6);
        Check.due("worst(2) of no entry", x.worst(2), -2);
        Check.due("depth(0) of no entry", x.depth(0), -1);
        Check.due("ofFile(1, 1) of a file that is not there", x.ofFile(1, 1), -6);
        Check.due("ofFile(1, 6) of a file that is not there", x.ofFile(1, 6), -2);
        x.drop(1);
        Check.due("ofEntry(0, 5)", x.ofEntry(0, 5), -6);
        Check.due("ofEntry(0, 9)", x.ofEntry(0, 9), -2);
        Check.due("ofEntry(0, 2) of a drop", x.ofEntry(0, 2), -6);
        Check.due("ofEntry(1, 2) of no entry", x.ofEntry(1, 2), -1);
        x.lose(0);
        Check.due("depth(0) of a lost one", x.depth(0), -6);
        Check.due("depth(1) of no entry", x.depth(1), -1);
    }

    @Holds(at = "Terms", sentence = "Everything is numbered from 0.")
    static void numbersFromZero() {
        DependentReplay x = new DependentReplay();
        Check.due("the first entry", x.make(1, 0), 0);
        Check.due("the lowest bit of a set", x.set(4), 1);
        x.round();
        Check.due("the first round", x.ofEntry(0, 5), 0);
        Check.due("the lowest depth", x.depth(0), 0);
        Check.due("the first slot", x.save(0), 1);
        x.put('x');
        Check.due("the first character", x.fault(), 0);
    }

    @Holds(at = "Terms", sentence = "Sets of entries are bit masks (long), sets of files are bit masks (int).")
    static void highBits() {
        DependentReplay x = Edges.chain(Edges.ENTRIES);
        for (int entry : new int[] {31, 32, 33, 39}) {
            Check.due("dependsOn(" + entry + ")", x.dependsOn(entry), 1L << entry - 1);
        }
        x.lose(39);
        Check.due("lost", x.set(0), 1L << 39);
        x.lose(32);
        Check.due("lost", x.set(0), 1L << 39 | 1L << 32);
        Check.due("orphans", x.set(1), Edges.entries(33, 38));
        Check.due("wants(39)", x.wants(39), 1L << 39 | 1L << 32);
        Check.due("wants(0)", x.wants(0), 0);
        Check.due("files in the file 14", Edges.deepTree().ofFile(14, 3), 1 << 15);
    }

    // ---- files

    @Holds(at = "Terms", sentence = "There are 16 files, 0 to 15.")
    static void sixteenFiles() {
        DependentReplay x = Edges.wideLog();
        x.replay();
        for (int file = 0; file <= 15; file++) {
            Check.due("file " + file, x.ofFile(file, 0), 1);
        }
        Check.due("files", x.count(6), 16);
        Check.due("file 16", x.ofFile(16, 0), -1);
        Check.due("file -1", x.ofFile(-1, 0), -1);
    }

    @Holds(at = "Terms", sentence = "The file 0 is the root: it is always there.")
    static void rootIsAlwaysThere() {
        DependentReplay x = new DependentReplay();
        Check.due("at first", x.ofFile(0, 0), 1);
        Check.due("it can't be dropped", x.drop(0), -1);
        Check.due("it can't be made", x.make(0, 0), -1);
        Check.carryOut(x, "mb/a;db");
        x.replay();
        Check.due("alone again", x.ofFile(0, 0), 1);
        Check.due("files", x.count(6), 1);
        x.lose(0);
        Check.due("after a loss", x.ofFile(0, 0), 1);
        x.beginAnew();
        Check.due("when begun anew", x.ofFile(0, 0), 1);
        Check.due("the same in both orders", x.unlike(), 0);
    }

    @Holds(at = "Terms", sentence = "Each other file is there or not (at first none is)")
    static void noFileAtFirst() {
        DependentReplay x = new DependentReplay();
        for (int file = 1; file <= 15; file++) {
            Check.due("file " + file, x.ofFile(file, 0), 0);
        }
        x.make(15, 0);
        Check.due("written, but not replayed", x.ofFile(15, 0), 0);
        x.round();
        Check.due("replayed", x.ofFile(15, 0), 1);
    }

    @Holds(at = "Terms", sentence = "and has a value (0 to 999)")
    static void lowestAndHighestValue() {
        DependentReplay x = Check.after("mb/a;wb=999;r;r");
        Check.due("the highest", x.ofFile(1, 2), 999);
        x.write(1, 0);
        x.round();
        Check.due("the lowest", x.ofFile(1, 2), 0);
    }

    @Holds(at = "Terms", sentence = "Each file can be a directory of others.")
    static void eachFileAsADirectory() {
        DependentReplay x = Edges.deepTree();
        for (int file = 0; file <= 14; file++) {
            Check.due("what lies in file " + file, x.ofFile(file, 3), 1 << file + 1);
        }
        DependentReplay y = Check.after("mp/a;mb/p;mc/p;r;r");
        Check.due("what lies in file 15", y.ofFile(15, 3), Check.setOf(1, 2));
    }

    @Holds(at = "Terms", sentence = "The log has up to 40 entries, numbered in the order of writing.")
    static void fortyEntries() {
        DependentReplay x = Edges.chain(Edges.ENTRIES);
        Check.due("entries", x.count(0), 40);
        Check.due("the value of the last one", x.ofEntry(39, 2), 39);
        Check.due("one more", x.write(1, 0), -4);
        Check.due("entry 40", x.ofEntry(40, 0), -1);
        x.undo();
        Check.due("room for one again", x.write(1, 7), 39);
        Check.due("the value of the last one", x.ofEntry(39, 2), 7);
    }

    @Holds(at = "Terms", sentence = "An entry has a kind, a file (1 to 15)")
    static void lowestAndHighestFile() {
        DependentReplay x = Check.after("mb/a;mp/a;wb=1;wp=1;vb/p;vp/b;db;dp");
        for (int entry = 0; entry < 8; entry++) {
            Check.due("the file of entry " + entry, x.ofEntry(entry, 1), entry % 2 == 0 ? 1 : 15);
        }
    }

    @Holds(at = "Terms", sentence = "MAKE (0): a directory, in which the file comes to lie, with the value 0")
    static void madeAgainWithTheValueZero() {
        DependentReplay x = Check.after("mb/a;mc/b;wc=7;dc;mc/a;r;r;r");
        Check.due("written", x.ofFile(2, 2), 7);
        x.replay();
        Check.due("made again: its value", x.ofFile(2, 2), 0);
        Check.due("made again: its directory", x.ofFile(2, 1), 0);
    }

    @Holds(at = "Terms", sentence = "MOVE (2): a directory, in which it comes to lie")
    static void movedWithAllInIt() {
        DependentReplay x = Check.after("mb/a;mc/b;md/c;wc=9;me/a;vc/e");
        x.replay();
        Check.due("its directory", x.ofFile(2, 1), 4);
        Check.due("it keeps its value", x.ofFile(2, 2), 9);
        Check.due("what lies in it", x.ofFile(2, 3), Check.setOf(3));
        Check.due("nothing lies where it lay", x.ofFile(1, 3), 0);
    }

    @Holds(at = "Terms", sentence = "DROP (3): the file is not there any more.")
    static void droppedFile() {
        DependentReplay x = Check.after("mb/a;wb=5;db;r;r;r");
        int[] due = {0, -6, -6, 0, -6, 0};
        for (int what = 0; what < due.length; what++) {
            Check.due("ofFile(1, " + what + ")", x.ofFile(1, what), due[what]);
        }
        Check.due("nothing lies in the root", x.ofFile(0, 3), 0);
    }
}
