/** Promises 2 to 6: the methods that write. */
public final class WritingTest {
    public static void main(String[] arguments) {
        promise2Make();
        promise3Write();
        promise4Move();
        promise5Drop();
        dependenciesOfFiles();
        dependenciesOfDirectories();
        dependenciesOfDrops();
        promise6Need();
        promise6NeedRefused();
        fortyEntries();
        Check.end();
    }

    private static void promise2Make() {
        DependentReplay x = new DependentReplay();
        Check.due("first make", x.make(1, 0), 0);
        Check.due("second make", x.make(15, 15), 1);
        Check.due("make in a file that is not there", x.make(2, 14), 2);
        Check.due("kind", x.ofEntry(1, 0), DependentReplay.MAKE);
        Check.due("file", x.ofEntry(1, 1), 15);
        Check.due("directory", x.ofEntry(1, 2), 15);
        Check.due("directory of the first", x.ofEntry(0, 2), 0);
        Check.due("no entry is replayed by writing", x.count(3), 0);
        Check.due("a change each", x.count(9), 3);
        Check.refused("make(0, 0)", new DependentReplay(), -1, y -> y.make(0, 0));
        Check.refused("make(16, 0)", new DependentReplay(), -1, y -> y.make(16, 0));
        Check.refused("make(-1, 0)", new DependentReplay(), -1, y -> y.make(-1, 0));
        Check.refused("make(1, -1)", new DependentReplay(), -1, y -> y.make(1, -1));
        Check.refused("make(1, 16)", new DependentReplay(), -1, y -> y.make(1, 16));
        Check.refused("make(max, min)", x, -1, y -> y.make(Integer.MAX_VALUE, Integer.MIN_VALUE));
    }

    private static void promise3Write() {
        DependentReplay x = new DependentReplay();
        Check.due("write(1, 0)", x.write(1, 0), 0);
        Check.due("write(15, 999)", x.write(15, 999), 1);
        Check.due("kind", x.ofEntry(1, 0), DependentReplay.WRITE);
        Check.due("file", x.ofEntry(1, 1), 15);
        Check.due("value", x.ofEntry(1, 2), 999);
        Check.due("a change each", x.count(9), 2);
        Check.refused("write(0, 5)", new DependentReplay(), -1, y -> y.write(0, 5));
        Check.refused("write(16, 5)", new DependentReplay(), -1, y -> y.write(16, 5));
        Check.refused("write(1, -1)", new DependentReplay(), -2, y -> y.write(1, -1));
        Check.refused("write(1, 1000)", x, -2, y -> y.write(1, 1000));
        Check.refused("write(0, 1000): the file first", new DependentReplay(), -1, y -> y.write(0, 1000));
    }

    private static void promise4Move() {
        DependentReplay x = new DependentReplay();
        Check.due("move(1, 0)", x.move(1, 0), 0);
        Check.due("move(15, 15)", x.move(15, 15), 1);
        Check.due("kind", x.ofEntry(1, 0), DependentReplay.MOVE);
        Check.due("file", x.ofEntry(1, 1), 15);
        Check.due("directory", x.ofEntry(1, 2), 15);
        Check.due("a change each", x.count(9), 2);
        Check.refused("move(0, 1)", new DependentReplay(), -1, y -> y.move(0, 1));
        Check.refused("move(16, 1)", new DependentReplay(), -1, y -> y.move(16, 1));
        Check.refused("move(1, -1)", new DependentReplay(), -1, y -> y.move(1, -1));
        Check.refused("move(1, 16)", x, -1, y -> y.move(1, 16));
    }

    private static void promise5Drop() {
        DependentReplay x = new DependentReplay();
        Check.due("drop(1)", x.drop(1), 0);
        Check.due("drop(15)", x.drop(15), 1);
        Check.due("kind", x.ofEntry(1, 0), DependentReplay.DROP);
        Check.due("file", x.ofEntry(1, 1), 15);
        Check.due("neither directory nor value", x.ofEntry(1, 2), -6);
        Check.due("a change each", x.count(9), 2);
        Check.refused("drop(0)", new DependentReplay(), -1, y -> y.drop(0));
        Check.refused("drop(16)", new DependentReplay(), -1, y -> y.drop(16));
        Check.refused("drop(-1)", x, -1, y -> y.drop(-1));
    }

    private static void dependenciesOfFiles() {
        DependentReplay x = Check.after("mb/a;wb=1;mc/a;wb=2;vb/a;db;mb/a");
        Check.due("a first entry", x.dependsOn(0), 0);
        Check.due("the latest of the file", x.dependsOn(1), Check.setOf(0));
        Check.due("another file", x.dependsOn(2), 0);
        Check.due("only the latest one", x.dependsOn(3), Check.setOf(1));
        Check.due("a move to the root", x.dependsOn(4), Check.setOf(3));
        Check.due("a drop", x.dependsOn(5), Check.setOf(4));
        Check.due("a make after a drop", x.dependsOn(6), Check.setOf(5));
        x.lose(6);
        Check.due("a write after a lost one", x.write(1, 3), 7);
        Check.due("lost ones count, too", x.dependsOn(7), Check.setOf(6));
        Check.due("refused file", x.write(16, 3), -1);
    }

    private static void dependenciesOfDirectories() {
        DependentReplay x = Check.after("mb/a;wb=1;mc/b;md/d;md/c;vc/b;ve/b;wf=1;mg/f");
        Check.due("the latest of the directory", x.dependsOn(2), Check.setOf(1));
        Check.due("itself as its directory, none before", x.dependsOn(3), 0);
        Check.due("the file and the directory", x.dependsOn(4), Check.setOf(2, 3));
        Check.due("a move: the file and the directory", x.dependsOn(5), Check.setOf(1, 2));
        Check.due("a move of a file with no entry", x.dependsOn(6), Check.setOf(1));
        Check.due("a value is no directory: write(5, 1)", x.dependsOn(7), 0);
        Check.due("a directory that was only written", x.dependsOn(8), Check.setOf(7));
        x.lose(7);
        x.lose(8);
        Check.due("move", x.move(6, 5), 9);
        Check.due("lost ones count, too", x.dependsOn(9), Check.setOf(7, 8));
        Check.due("itself as its directory, once", x.make(3, 3), 10);
        Check.due("one entry, for both reasons", x.dependsOn(10), Check.setOf(4));
    }

    private static void dependenciesOfDrops() {
        DependentReplay x = Check.after("mb/a;mc/b;we=1;vd/b;db;dc;de;wg=5;df;mf/f;df");
        Check.due("the latest of the file, the latest in it", x.dependsOn(4), Check.setOf(0, 3));
        Check.due("nothing was put in it", x.dependsOn(5), Check.setOf(1));
        Check.due("a value that looks like the file", x.dependsOn(6), Check.setOf(2));
        Check.due("a write's value is no directory", x.dependsOn(8), 0);
        Check.due("one entry, for both reasons", x.dependsOn(10), Check.setOf(9));
        x.lose(3);
        Check.due("drop", x.drop(1), 11);
        Check.due("lost ones count, too", x.dependsOn(11), Check.setOf(3, 4));
        DependentReplay y = Check.after("mc/b;db");
        Check.due("the first entry lies in it", y.dependsOn(1), Check.setOf(0));
        DependentReplay z = Check.after("vc/b;md/a;db");
        Check.due("a move into it, too", z.dependsOn(2), Check.setOf(0));
        Check.due("make", x.make(1, 0), 12);
        Check.due("only a drop looks into its file", x.dependsOn(12), Check.setOf(11));
    }

    private static void promise6Need() {
        DependentReplay x = Check.after("mb/a;mc/a;md/a;me/d;we=7;r;r");
        Check.due("rounds before", x.count(5), 2);
        Check.due("need(2, 0)", x.need(2, 0), 1);
        Check.due("no entry is replayed any more", x.count(3), 0);
        Check.due("no round was made", x.count(5), 0);
        Check.due("the tree is the root alone", x.count(6), 1);
        Check.due("no width", x.count(7), 0);
        Check.due("need(2, 1)", x.need(2, 1), 2);
        Check.due("need(3, 0)", x.need(3, 0), 2);
        Check.due("dependsOn(2)", x.dependsOn(2), Check.setOf(0, 1));
        Check.due("dependsOn(3)", x.dependsOn(3), Check.setOf(0, 2));
        Check.due("an entry after it leans, too", x.ofEntry(1, 8), 3);
        Check.due("an entry after it does not depend itself", x.dependsOn(4), Check.setOf(3));
        x.round();
        Check.due("changes", x.count(9), 5);
        Check.due("told once more", x.need(2, 1), 2);
        Check.due("that begins anew, too", x.count(3), 0);
        Check.due("and is a change", x.count(9), 6);
        x.lose(0);
        Check.due("need on a lost one", x.need(1, 0), 1);
        Check.due("that makes orphans", x.set(1), Check.setOf(1, 2, 3, 4));
    }

    private static void promise6NeedRefused() {
        DependentReplay x = Check.after("mb/a;mc/a;r");
        Check.refused("need(2, 0)", x, -1, y -> y.need(2, 0));
        DependentReplay z = Check.after("mb/a;mc/a;r");
        Check.refused("need(-1, 0)", z, -1, y -> y.need(-1, 0));
        DependentReplay w = Check.after("mb/a;mc/a;r");
        Check.refused("need(1, 1)", w, -5, y -> y.need(1, 1));
        Check.due("need(0, 1)", w.need(0, 1), -5);
        Check.due("need(1, 2): no such entry", w.need(1, 2), -1);
        Check.due("need(1, -1): no such entry", w.need(1, -1), -1);
        Check.due("need(1, 40)", w.need(1, 40), -1);
        Check.due("need(max, min)", w.need(Integer.MAX_VALUE, Integer.MIN_VALUE), -1);
        Check.due("need in an empty log", new DependentReplay().need(0, 0), -1);
    }

    private static void fortyEntries() {
        DependentReplay x = new DependentReplay();
        for (int entry = 0; entry < 40; entry++) {
            Check.due("entry " + entry, entry % 2 == 0 ? x.make(1 + entry % 15, 0) : x.drop(1 + entry % 15), entry);
        }
        Check.due("those that lean on the first", x.ofEntry(0, 8), 2);
        Check.due("unlike", x.unlike(), 0);
        Check.due("one make more", x.make(1, 0), -4);
        Check.due("one write more", x.write(1, 0), -4);
        Check.due("one move more", x.move(1, 0), -4);
        Check.due("one drop more", x.drop(1), -4);
        Check.due("a wrong file first", x.make(16, 0), -1);
        Check.due("a wrong directory first", x.make(1, 16), -1);
        Check.due("a wrong value first", x.write(1, 1000), -2);
        Check.due("a wrong move first", x.move(1, -1), -1);
        Check.due("a wrong drop first", x.drop(0), -1);
        Check.due("entries", x.count(0), 40);
        Check.due("the last one depends on an early one", x.need(39, 0), 2);
        Check.due("dependsOn(39)", x.dependsOn(39), Check.setOf(0, 24));
        Check.due("entry 40", x.ofEntry(40, 0), -1);
        Check.due("a loss of the last one", x.lose(39), 0);
        Check.due("set(0)", x.set(0), 1L << 39);
        Check.due("an order of a text that is one too many", Check.carryOut(x, "r;mb/a;r"), 1);
    }
}
