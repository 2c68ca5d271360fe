/** The boundary cases of the terms 'Dependencies' and 'Rounds'. */
public final class RoundsEdgesTest {
    /** Two rounds, in which a file is made and written, and another entry is refused. */
    private static final String TWO_ROUNDS = "mb/a;wb=1;wc=2;we=5;l2;r;r";

    public static void main(String[] arguments) throws Exception {
        Edges.run(RoundsEdgesTest.class);
    }

    // ---- dependencies

    @Holds(at = "Dependencies", sentence = "the latest entry before it with the same file")
    static void latestOfTheFile() {
        DependentReplay x = Check.after("wb=1;wb=2;wc=3;wb=4;mb/a;vb/a;db");
        long[] due = {0, Check.setOf(0), 0, Check.setOf(1), Check.setOf(3), Check.setOf(4), Check.setOf(5)};
        for (int entry = 0; entry < due.length; entry++) {
            Check.due("dependsOn(" + entry + ")", x.dependsOn(entry), due[entry]);
        }
        Check.due("the last one of a full log", Edges.chain(Edges.ENTRIES).dependsOn(39), 1L << 38);
    }

    @Holds(at = "Dependencies", sentence = "if it has a directory that is not the root, the latest entry before it whose file this directory is")
    static void latestOfTheDirectory() {
        DependentReplay x = Check.after("mb/a;wb=1;mc/a;md/b;vc/b;we=1;mp/p;vf/p");
        Check.due("the root is none", x.dependsOn(2), 0);
        Check.due("the latest one of several", x.dependsOn(3), Check.setOf(1));
        Check.due("of a move, besides the file's", x.dependsOn(4), Check.setOf(1, 2));
        Check.due("a value is no directory", x.dependsOn(5), 0);
        Check.due("itself, but no entry before", x.dependsOn(6), 0);
        Check.due("the highest file", x.dependsOn(7), Check.setOf(6));
    }

    @Holds(at = "Dependencies", sentence = "if it is a DROP, the latest entry before it whose directory is its file")
    static void latestInTheFile() {
        DependentReplay x = Check.after("mb/a;mc/b;vd/b;we=1;db;wb=1;mp/p;dp");
        Check.due("the latest one of several, and no value", x.dependsOn(4), Check.setOf(0, 2));
        Check.due("only of a drop", x.dependsOn(5), Check.setOf(4));
        Check.due("one entry that is both", x.dependsOn(7), Check.setOf(6));
        Check.due("the first entry of all", Check.after("mc/b;db").dependsOn(1), Check.setOf(0));
    }

    @Holds(at = "Dependencies", sentence = "Each of these only if there is one")
    static void noneBefore() {
        DependentReplay x = Check.after("mb/p;dc;vd/o;we=4");
        for (int entry = 0; entry <= 3; entry++) {
            Check.due("dependsOn(" + entry + ")", x.dependsOn(entry), 0);
        }
    }

    @Holds(at = "Dependencies", sentence = "lost ones count, too")
    static void lostOnesBefore() {
        Check.due("of the file", Check.after("mb/a;l0;wb=1").dependsOn(1), Check.setOf(0));
        Check.due("of the directory", Check.after("mb/a;l0;mc/b").dependsOn(1), Check.setOf(0));
        Check.due("in the file", Check.after("mb/a;mc/b;l0;l1;db").dependsOn(2), Check.setOf(0, 1));
        Check.due("not one before the lost one", Check.after("mb/a;wb=1;l1;wb=2").dependsOn(2), Check.setOf(1));
    }

    @Holds(at = "Dependencies", sentence = "More dependencies on earlier entries can be told.")
    static void allEarlierOnesTold() {
        DependentReplay x = Edges.chain(Edges.ENTRIES);
        for (int earlier = 0; earlier <= 37; earlier++) {
            Check.due("need(39, " + earlier + ")", x.need(39, earlier), earlier + 2);
        }
        Check.due("need(39, 38)", x.need(39, 38), 39);
        Check.due("dependsOn(39)", x.dependsOn(39), (1L << 39) - 1);
        Check.due("the others stay", x.dependsOn(38), 1L << 37);
        Check.due("the first one", x.dependsOn(0), 0);
    }

    @Holds(at = "Dependencies", sentence = "What an entry leans on is what it depends on, and all that these lean on.")
    static void longestLeaning() {
        DependentReplay x = Edges.chain(Edges.ENTRIES);
        Check.due("on the first", x.ofEntry(0, 8), 39);
        Check.due("on the last", x.ofEntry(39, 8), 0);
        x.lose(0);
        Check.due("wants(39)", x.wants(39), 1);
        Check.due("told from above", Check.after("wb=1;wc=1;wd=1;n1<0;n2<1").ofEntry(0, 8), 2);
        Check.due("told from below", Check.after("wb=1;wc=1;wd=1;n2<1;n1<0").ofEntry(0, 8), 2);
        Check.due("not itself", Check.after("wb=1").ofEntry(0, 8), 0);
    }

    @Holds(at = "Dependencies", sentence = "An orphan is an entry that is not lost, but leans on a lost one.")
    static void lostOrOrphan() {
        DependentReplay x = Check.after("mb/a;wb=1;wb=2;wc=3;l0");
        Check.due("orphans", x.set(1), Check.setOf(1, 2));
        x.lose(1);
        Check.due("a lost one is none", x.set(1), Check.setOf(2));
        x.find(0);
        Check.due("it leans on another lost one yet", x.set(1), Check.setOf(2));
        x.lose(2);
        Check.due("all that lean are lost", x.set(1), 0);
        Check.due("the longest row of them", Edges.chain(Edges.ENTRIES).lose(0), 39);
    }

    // ---- rounds

    @Holds(at = "Rounds", sentence = "At first no entry is replayed, and the tree is the root alone.")
    static void nothingReplayedAtFirst() {
        DependentReplay x = Check.after("mb/a;mc/a");
        beginsAnew("two entries that are written", x);
        Check.due("ready", x.set(4), Check.setOf(0, 1));
    }

    @Holds(at = "Rounds", sentence = "all entries that are ready are replayed in the order of their numbers")
    static void orderWithinARound() {
        DependentReplay x = Check.after("mb/c;mc/a;r");
        Check.due("both in the round", x.set(2), Check.setOf(0, 1));
        Edges.reasons(x, 3, 0);
        DependentReplay y = Check.after("mb/a;mc/b;dc;db;r;r;r");
        Check.due("both drops in the round", y.ofEntry(2, 5), y.ofEntry(3, 5));
        Edges.reasons(y, 0, 0, 0, 0);
    }

    @Holds(at = "Rounds", sentence = "those that are not lost, were not replayed before the round, and depend only on entries that were replayed before the round")
    static void readyOnes() {
        DependentReplay x = Check.after("wb=1;wb=2;wc=3;wc=4;wd=5;l2;n4<1");
        long[] due = {Check.setOf(0), Check.setOf(1), Check.setOf(4), 0};
        for (int round = 0; round < due.length; round++) {
            Check.due("ready before round " + round, x.set(4), due[round]);
            Check.due("replayed in round " + round, x.round(), Long.bitCount(due[round]));
        }
        Check.due("neither the lost one nor its orphan", x.set(2), Check.setOf(0, 1, 4));
    }

    @Holds(at = "Rounds", sentence = "(A refused entry is replayed, too.)")
    static void refusedIsReplayed() {
        DependentReplay x = Check.after("wb=1;mb/a;r");
        Check.due("refused", x.set(3), Check.setOf(0));
        Check.due("replayed", x.set(2), Check.setOf(0));
        Check.due("what depends on it is ready", x.set(4), Check.setOf(1));
        Check.due("a full log, all refused", Edges.chain(Edges.ENTRIES).replay(), 40);
    }

    @Holds(at = "Rounds", sentence = "When an entry is lost or found, or a dependency is told, or the replay begins anew, no entry is replayed any more, the tree is the root alone, and no round was made.")
    static void begunAnew() {
        begunAnewBy("lose(0)", y -> y.lose(0));
        begunAnewBy("lose(3), on which none leans", y -> y.lose(3));
        begunAnewBy("find(2)", y -> y.find(2));
        begunAnewBy("need(3, 0)", y -> y.need(3, 0));
        begunAnewBy("need(1, 0), which it does already", y -> y.need(1, 0));
        begunAnewBy("beginAnew()", y -> y.beginAnew());
        begunAnewBy("a text that loses", y -> Check.carryOut(y, "l0"));
        begunAnewBy("a text that finds", y -> Check.carryOut(y, "f2"));
        begunAnewBy("a text that tells", y -> Check.carryOut(y, "n1<0"));
    }

    @Holds(at = "Rounds", sentence = "When an entry is lost or found, or a dependency is told, or the replay begins anew, no entry is replayed any more")
    static void notBegunAnew() {
        stays("make", y -> y.make(1, 0));
        stays("write", y -> y.write(1, 9));
        stays("move", y -> y.move(1, 0));
        stays("drop", y -> y.drop(1));
        stays("lose(2), which is lost", y -> y.lose(2));
        stays("find(0), which is not lost", y -> y.find(0));
        stays("need(0, 0)", y -> y.need(0, 0));
        stays("a text of none", y -> Check.carryOut(y, "l2"));
    }

    private static void begunAnewBy(String what, Check.Call call) {
        DependentReplay x = Check.after(TWO_ROUNDS);
        Check.due("replayed before " + what, x.count(3), 3);
        Check.due(what + " is done", call.on(x) >= 0 ? 1 : 0, 1);
        beginsAnew("after " + what, x);
        Check.due("the round of an entry after " + what, x.ofEntry(0, 5), -6);
        Check.due("the reason of one that was refused after " + what, x.ofEntry(3, 6), -6);
        x.round();
        Check.due("the rounds after " + what + " and one", x.count(5), 1);
    }

    private static void beginsAnew(String when, DependentReplay x) {
        int[] due = {0, 0, 0, 1, 0};
        for (int what = 3; what <= 7; what++) {
            Check.due("count(" + what + ") " + when, x.count(what), due[what - 3]);
        }
        Check.due("replayed " + when, x.set(2), 0);
        Check.due("refused " + when, x.set(3), 0);
        Check.due("the tree " + when, Edges.tree(x), Edges.tree(new DependentReplay()));
    }

    private static void stays(String what, Check.Call call) {
        DependentReplay x = Check.after(TWO_ROUNDS);
        String before = Edges.tree(x);
        call.on(x);
        Check.due("replayed after " + what, x.set(2), Check.setOf(0, 1, 3));
        Check.due("rounds after " + what, x.count(5), 2);
        Check.due("the tree after " + what, Edges.tree(x), before);
    }
}
