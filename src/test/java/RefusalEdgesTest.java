/** The boundary cases of what the terms say of entries that are refused. */
public final class RefusalEdgesTest {
    public static void main(String[] arguments) throws Exception {
        Edges.run(RefusalEdgesTest.class);
    }

    private static DependentReplay replayed(String text) {
        DependentReplay x = Check.after(text);
        x.replay();
        return x;
    }

    @Holds(at = "Terms", sentence = "An entry is refused when it is replayed, for the first one of these reasons")
    static void firstOfSeveralReasons() {
        DependentReplay x = replayed("mb/a;mb/p;mb/b;vc/p;vc/c;dc");
        Check.due("not before it is replayed", Check.after("db").ofEntry(0, 6), -6);
        Edges.reasons(x, 0, 1, 1, 2, 2, 2);
    }

    @Holds(at = "Terms", sentence = "1: it is a MAKE, and its file is there already")
    static void madeAlready() {
        Edges.reasons(replayed("mb/a;mb/a"), 0, 1);
        Edges.reasons(replayed("mb/a;mc/a;mb/c;mb/b"), 0, 0, 1, 1);
        Edges.reasons(replayed("mb/a;db;mb/a"), 0, 0, 0);
        Edges.reasons(replayed("mp/a;mp/a"), 0, 1);
    }

    @Holds(at = "Terms", sentence = "2: it is another one, and its file is not there")
    static void notThere() {
        Edges.reasons(replayed("wb=1;vc/a;dd;wp=0"), 2, 2, 2, 2);
        Edges.reasons(replayed("mb/a;db;wb=1;vb/a;db"), 0, 0, 2, 2, 2);
        Edges.reasons(replayed("mb/a;wb=1;vb/a;db"), 0, 0, 0, 0);
    }

    @Holds(at = "Terms", sentence = "3: its directory is not there")
    static void noDirectory() {
        Edges.reasons(replayed("mb/c;md/d;me/a;ve/g;ve/p;mp/f"), 3, 3, 0, 3, 3, 3);
        Edges.reasons(replayed("mb/a;db;mc/b"), 0, 0, 3);
        Edges.reasons(replayed("mb/a;mc/b;vc/b"), 0, 0, 0);
    }

    @Holds(at = "Terms", sentence = "4: it is a MOVE, and its directory is the file itself, or lies in it (in a directory that lies in it, and so on)")
    static void intoItself() {
        Edges.reasons(replayed("mb/a;mc/b;md/c;vb/b;vb/c;vb/d;vc/b;vd/b;vc/d"), 0, 0, 0, 4, 4, 4, 0, 0, 0);
        DependentReplay x = Edges.deepTree();
        x.move(1, 15);
        x.replay();
        Check.due("fourteen directories deep", x.ofEntry(15, 6), 4);
        x.move(15, 1);
        x.move(2, 15);
        x.replay();
        Check.due("up", x.ofEntry(16, 6), 0);
        Check.due("then down beside it", x.ofEntry(17, 6), 0);
    }

    @Holds(at = "Terms", sentence = "5: it is a DROP, and some file lies in the file")
    static void notEmpty() {
        Edges.reasons(replayed("mb/a;mc/b;db;dc;db"), 0, 0, 5, 0, 0);
        DependentReplay x = Check.after("mb/a;mc/b;r;r;vc/a;r;db;r");
        Check.due("what lay in it was moved away", x.ofEntry(3, 6), 0);
        Check.due("it is not there any more", x.ofFile(1, 0), 0);
        Edges.reasons(replayed("mb/a;mp/b;db"), 0, 0, 5);
    }

    @Holds(at = "Terms", sentence = "An entry that is refused changes nothing in the tree.")
    static void refusedChangesNoTree() {
        DependentReplay x = replayed("mb/a;mc/b;wc=7");
        String before = Edges.tree(x);
        Check.due("eight orders", Check.carryOut(x, "mc/a;wd=9;vd/a;vc/p;me/p;vb/c;vb/b;db"), 8);
        x.replay();
        Edges.reasons(x, 0, 0, 0, 1, 2, 2, 3, 3, 4, 4, 5);
        Check.due("the tree", Edges.tree(x), before);
    }

    @Holds(at = "Terms", sentence = "(A directory that is the root is always there.)")
    static void intoTheRoot() {
        Edges.reasons(replayed("mb/a;vb/a;db"), 0, 0, 0);
        Edges.reasons(replayed("mb/a;mc/b;vc/a;vc/a"), 0, 0, 0, 0);
        DependentReplay x = replayed("mb/a;db;mp/a");
        Check.due("after all were dropped", x.ofFile(15, 1), 0);
    }
}
