/** Promises 7 to 11: losing and replaying. */
public final class ReplayingTest {
    public static void main(String[] arguments) {
        promise7Lose();
        promise8Find();
        promise9BeginAnew();
        promise10Round();
        promise10Tree();
        reasonsOfRefusal();
        orderOfReasons();
        promise11Replay();
        writingDoesNotBeginAnew();
        Check.end();
    }

    private static void promise7Lose() {
        DependentReplay x = Check.after("mb/a;mc/b;wc=1;md/a;r;r");
        Check.due("replayed before", x.count(3), 3);
        Check.due("lose(1)", x.lose(1), 1);
        Check.due("no entry is replayed any more", x.count(3), 0);
        Check.due("no round was made", x.count(5), 0);
        Check.due("the tree is the root alone", x.count(6), 1);
        Check.due("lost", x.set(0), Check.setOf(1));
        Check.due("orphans", x.set(1), Check.setOf(2));
        Check.due("lose(0): what leans on it, but is lost, is no orphan", x.lose(0), 1);
        Check.due("lose(2): an orphan that is lost is none", x.lose(2), 0);
        Check.due("lose(3)", x.lose(3), 0);
        Check.due("changes", x.count(9), 5);
        Check.due("lose(4)", x.lose(4), -1);
        Check.due("lose(min)", x.lose(Integer.MIN_VALUE), -1);
        DependentReplay y = Check.after("mb/a;mc/b;r");
        Check.refused("lose(-1)", y, -1, z -> z.lose(-1));
        DependentReplay w = Check.after("mb/a;mc/b;l0;r");
        Check.refused("lose(0) once more", w, -5, z -> z.lose(0));
        Check.due("lose(2): none such, before all else", w.lose(2), -1);
    }

    private static void promise8Find() {
        DependentReplay x = Check.after("mb/a;mc/b;wc=1;md/a;l1;l0;r");
        Check.due("replayed before", x.count(3), 1);
        Check.due("find(1)", x.find(1), 2);
        Check.due("no entry is replayed any more", x.count(3), 0);
        Check.due("no round was made", x.count(5), 0);
        Check.due("the tree is the root alone", x.count(6), 1);
        Check.due("lost", x.set(0), Check.setOf(0));
        Check.due("orphans", x.set(1), Check.setOf(1, 2));
        Check.due("find(0)", x.find(0), 0);
        Check.due("changes", x.count(9), 3);
        Check.due("find(4)", x.find(4), -1);
        DependentReplay y = Check.after("mb/a;mc/b;l0;r");
        Check.refused("find(1)", y, -5, z -> z.find(1));
        DependentReplay w = Check.after("mb/a;mc/b;l0;r");
        Check.refused("find(-1)", w, -1, z -> z.find(-1));
        Check.due("find(40)", w.find(40), -1);
    }

    private static void promise9BeginAnew() {
        DependentReplay x = new DependentReplay();
        Check.due("nothing was replayed", x.beginAnew(), 0);
        Check.due("it is a change", x.count(9), 1);
        Check.carryOut(x, "mb/a;wc=5;mc/b;l1;mh/a;r;r;r");
        Check.due("rounds", x.count(5), 3);
        Check.due("beginAnew()", x.beginAnew(), 2);
        Check.due("none is replayed", x.count(3), 0);
        Check.due("none is refused", x.count(4), 0);
        Check.due("no round", x.count(5), 0);
        Check.due("the root alone", x.count(6), 1);
        Check.due("no width", x.count(7), 0);
        Check.due("the round of an entry", x.ofEntry(0, 5), -6);
        Check.due("the reason of an entry", x.ofEntry(0, 6), -6);
        Check.due("lost ones stay lost", x.set(0), Check.setOf(1));
        Check.due("entries stay", x.count(0), 4);
        Check.due("once more", x.beginAnew(), 0);
        Check.due("changes", x.count(9), 4);
        Check.due("the replay comes to the same", x.replay(), 1);
        Check.due("replayed", x.count(3), 2);
        DependentReplay y = Check.after("wb=1;mc/a;r");
        Check.due("a refused one", y.count(4), 1);
        Check.due("it counts, too", y.beginAnew(), 2);
        Check.due("none is refused", y.set(3), 0);
    }

    private static void promise10Round() {
        DependentReplay x = new DependentReplay();
        Check.due("a round of nothing", x.round(), 0);
        Check.due("counts, too", x.count(5), 1);
        Check.due("and is a change", x.count(9), 1);
        Check.carryOut(x, "mb/a;mc/b;wb=1;md/a;wd=2");
        Check.due("two are ready", x.round(), 2);
        Check.due("those", x.set(2), Check.setOf(0, 3));
        Check.due("their round", x.ofEntry(3, 5), 1);
        Check.due("ready by this round, not in it", x.round(), 3);
        Check.due("all", x.count(3), 5);
        Check.due("nothing is ready", x.round(), 0);
        Check.due("rounds", x.count(5), 4);
        Check.due("the widest", x.count(7), 3);
        Check.due("the round of a later one", x.ofEntry(1, 5), 2);
        x.make(5, 0);
        Check.due("a new one", x.round(), 1);
        Check.due("its round, behind the empty one", x.ofEntry(5, 5), 4);
        DependentReplay y = Check.after("mb/a;mc/b;wc=1;md/a;l0");
        Check.due("no orphan is ready", y.round(), 1);
        Check.due("but the other one", y.set(2), Check.setOf(3));
        Check.due("not later", y.round(), 0);
    }

    private static void promise10Tree() {
        DependentReplay x = Check.after("mb/a;wb=7;mc/b;vb/d;md/c;r;r;r;r");
        Check.due("file 1 is there", x.ofFile(1, 0), 1);
        Check.due("its value", x.ofFile(1, 2), 7);
        Check.due("file 2 lies in 1", x.ofFile(2, 1), 1);
        Check.due("its value is 0", x.ofFile(2, 2), 0);
        Check.due("file 3 lies in 2", x.ofFile(3, 1), 2);
        Check.due("the move was refused: its directory was not there yet", x.ofEntry(3, 6), 3);
        DependentReplay y = Check.after("mb/a;mc/a;wc=9;vc/b;r;r;r");
        Check.due("a move keeps the value", y.ofFile(2, 2), 9);
        Check.due("and changes the directory", y.ofFile(2, 1), 1);
        y.drop(2);
        y.replay();
        Check.due("a drop", y.ofFile(2, 0), 0);
        y.make(2, 0);
        y.replay();
        Check.due("made again: the value is 0", y.ofFile(2, 2), 0);
        Check.due("made again: the directory", y.ofFile(2, 1), 0);
    }

    private static void reasonsOfRefusal() {
        DependentReplay x = Check.after("mb/a;mb/a;wc=1;vd/b;de;mf/g;vb/g;mh/b;vb/b;vb/h;db;dh;db");
        x.replay();
        int[] reasons = {0, 1, 2, 2, 2, 3, 3, 0, 4, 4, 5, 0, 0};
        for (int entry = 0; entry < reasons.length; entry++) {
            Check.due("why " + entry + " was refused", x.ofEntry(entry, 6), reasons[entry]);
        }
        Check.due("the refused ones", x.set(3), Check.setOf(1, 2, 3, 4, 5, 6, 8, 9, 10));
        Check.due("their number", x.count(4), 9);
        Check.due("refused ones are replayed, too", x.count(3), 13);
        Check.due("the root alone is left", x.count(6), 1);
    }

    private static void orderOfReasons() {
        DependentReplay x = Check.after("mb/a;mb/p;vc/p;vc/c;mc/c;vb/a;wb=1;r;r;r;r;r");
        Check.due("there already, before its directory", x.ofEntry(1, 6), 1);
        Check.due("not there, before its directory", x.ofEntry(2, 6), 2);
        Check.due("not there, before itself as its directory", x.ofEntry(3, 6), 2);
        Check.due("a make in itself: its directory is not there", x.ofEntry(4, 6), 3);
        Check.due("a move to the root is done", x.ofEntry(5, 6), 0);
        Check.due("a write is done", x.ofEntry(6, 6), 0);
        DependentReplay y = Check.after("mb/a;mc/b;md/c;vb/d;vc/c;vd/b;vc/d");
        y.replay();
        Check.due("into one that lies two below", y.ofEntry(3, 6), 4);
        Check.due("into itself", y.ofEntry(4, 6), 4);
        Check.due("up, into one that it lies in", y.ofEntry(5, 6), 0);
        Check.due("into one that lay in it before", y.ofEntry(6, 6), 0);
    }

    private static void promise11Replay() {
        DependentReplay x = new DependentReplay();
        Check.due("nothing to replay", x.replay(), 0);
        Check.due("no round is made", x.count(5), 0);
        Check.due("it is a change, too", x.count(9), 1);
        Check.carryOut(x, "mb/a;mc/b;md/c;we=1;r");
        Check.due("two rounds more", x.replay(), 2);
        Check.due("three in all", x.count(5), 3);
        Check.due("all replayed", x.count(3), 4);
        Check.due("again", x.replay(), 0);
        Check.due("rounds", x.count(5), 3);
        x.lose(1);
        Check.due("without the orphans", x.replay(), 1);
        Check.due("those", x.set(2), Check.setOf(0, 3));
        DependentReplay y = new DependentReplay();
        for (int entry = 0; entry < 40; entry++) {
            y.write(1, entry);
        }
        Check.due("forty rounds", y.replay(), 40);
        Check.due("the last one's round", y.ofEntry(39, 5), 39);
    }

    private static void writingDoesNotBeginAnew() {
        DependentReplay x = Check.after("mb/a;r;mc/b");
        Check.due("replayed", x.count(3), 1);
        Check.due("rounds", x.count(5), 1);
        Check.due("ready", x.set(4), Check.setOf(1));
        x.write(1, 2);
        x.move(1, 0);
        x.drop(1);
        Check.due("still replayed", x.count(3), 1);
        Check.due("a file is still there", x.ofFile(1, 0), 1);
    }
}
