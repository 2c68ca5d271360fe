/** The boundary cases of promises 17 to 20. */
public final class WhatIfEdgesTest {
    public static void main(String[] arguments) throws Exception {
        Edges.run(WhatIfEdgesTest.class);
    }

    @Holds(at = "Texts", sentence = "---- what if; nothing changes.")
    static void nothingChanges() {
        unchanged(Edges.chain(Edges.ENTRIES));
        DependentReplay replayed = Edges.chain(Edges.ENTRIES);
        replayed.replay();
        unchanged(replayed);
        DependentReplay withOrphans = Edges.chain(Edges.ENTRIES);
        withOrphans.lose(20);
        withOrphans.round();
        unchanged(withOrphans);
    }

    private static void unchanged(DependentReplay x) {
        String before = Edges.brief(x) + Edges.tree(x) + x.count(9);
        for (int entry = -1; entry <= Edges.ENTRIES; entry++) {
            x.depth(entry);
            x.wants(entry);
        }
        for (int what = -1; what <= 2; what++) {
            x.worst(what);
        }
        x.unlike();
        Check.due("all that is asked after", Edges.brief(x) + Edges.tree(x) + x.count(9), before);
    }

    // ---- depth

    @Holds(at = "Promise 17", sentence = "Tells in which round an entry would be replayed, if the replay began anew.")
    static void depthForgetsTheRounds() {
        DependentReplay x = new DependentReplay();
        x.round();
        x.round();
        x.make(1, 0);
        Check.due("not yet replayed, after two rounds", x.depth(0), 0);
        x.round();
        Check.due("replayed in round 2", x.depth(0), 0);
        Check.due("its round", x.ofEntry(0, 5), 2);
        x.write(1, 5);
        Check.due("what depends on it", x.depth(1), 1);
    }

    @Holds(at = "Promise 17", sentence = "Returns the round, from 0 on")
    static void lowestAndHighestDepth() {
        DependentReplay x = Edges.chain(Edges.ENTRIES);
        for (int entry = 0; entry < Edges.ENTRIES; entry++) {
            Check.due("depth(" + entry + ")", x.depth(entry), entry);
        }
        DependentReplay y = Edges.wideLog();
        Check.due("the last of a wide round", y.depth(14), 0);
        y.need(14, 13);
        Check.due("told", y.depth(14), 1);
    }

    @Holds(at = "Promise 17", sentence = "NO_SUCH if there is no such entry")
    static void depthOfNoEntry() {
        Check.due("in an empty log", new DependentReplay().depth(0), -1);
        DependentReplay x = Edges.chain(Edges.ENTRIES);
        x.lose(0);
        Check.due("depth(40)", x.depth(40), -1);
        for (int none : Edges.FAR_OFF) {
            Check.due("depth(" + none + ")", x.depth(none), -1);
        }
    }

    @Holds(at = "Promise 17", sentence = "NONE if it is lost or an orphan")
    static void depthOfLostOnesAndOrphans() {
        DependentReplay x = Edges.chain(Edges.ENTRIES);
        x.lose(1);
        Check.due("before the lost one", x.depth(0), 0);
        Check.due("the lost one", x.depth(1), -6);
        Check.due("the nearest orphan", x.depth(2), -6);
        Check.due("the farthest orphan", x.depth(39), -6);
        x.find(1);
        Check.due("found again", x.depth(39), 39);
    }

    // ---- wants

    @Holds(at = "Promise 18", sentence = "those that it leans on, and itself, if it is lost")
    static void fewestAndMostWanted() {
        DependentReplay x = Edges.chain(Edges.ENTRIES);
        Check.due("none is lost", x.wants(39), 0);
        x.lose(39);
        Check.due("itself alone", x.wants(39), 1L << 39);
        Check.due("not a later one", x.wants(38), 0);
        for (int entry = 0; entry < 39; entry++) {
            x.lose(entry);
        }
        Check.due("all", x.wants(39), Edges.ALL_ENTRIES);
        Check.due("the first alone", x.wants(0), 1);
        x.find(39);
        Check.due("all but itself", x.wants(39), Edges.entries(0, 38));
        Check.due("a lost one that it does not lean on", Check.after("mb/a;mc/a;l0").wants(1), 0);
    }

    @Holds(at = "Promise 18", sentence = "-1 if there is no such entry")
    static void wantsOfNoEntry() {
        Check.due("in an empty log", new DependentReplay().wants(0), -1);
        DependentReplay x = Edges.chain(Edges.ENTRIES);
        Check.due("wants(40)", x.wants(40), -1);
        for (int none : Edges.FAR_OFF) {
            Check.due("wants(" + none + ")", x.wants(none), -1);
        }
    }

    // ---- worst

    @Holds(at = "Promise 19", sentence = "Finds the entry that is not lost whose loss would leave the most orphans (with those that there are already)")
    static void worstWithOrphans() {
        DependentReplay x = Edges.chain(Edges.ENTRIES);
        worst("the first of all", x, 0, 39);
        x.lose(0);
        worst("an orphan that is lost is none", x, 1, 38);
        x.lose(20);
        worst("one orphan less", x, 1, 37);
        worst("those that there are, and more", Check.after("mb/a;wb=1;mc/a;mp/a;wp=1;wp=2;l0"), 3, 3);
        worst("those that there are alone", Check.after("mb/a;wb=1;mc/a;l0"), 2, 1);
    }

    @Holds(at = "Promise 19", sentence = "of several the lowest one")
    static void lowestOfSeveral() {
        worst("none leaves an orphan", Edges.wideLog(), 0, 0);
        worst("the second and the last but one", Check.after("mb/a;mc/a;wc=1;md/a;wd=1;l0"), 1, 1);
        worst("the last of several leaves more", Check.after("mb/a;wb=1;mc/a;wc=1;wc=2"), 2, 2);
        worst("the only one", Check.after("mb/a"), 0, 0);
    }

    @Holds(at = "Promise 19", sentence = "NONE if there is no entry that is not lost")
    static void noneToLose() {
        worst("an empty log", new DependentReplay(), -6, -6);
        worst("the only one is lost", Check.after("mb/a;l0"), -6, -6);
        DependentReplay x = Edges.chain(Edges.ENTRIES);
        for (int entry = 0; entry < 39; entry++) {
            x.lose(entry);
        }
        worst("the last one is left", x, 39, 0);
        x.lose(39);
        worst("all are lost", x, -6, -6);
    }

    @Holds(at = "Promise 19", sentence = "BAD_VALUE if what is out of range")
    static void worstOutOfRange() {
        DependentReplay empty = new DependentReplay();
        DependentReplay x = Check.after("mb/a");
        Check.due("worst(2)", x.worst(2), -2);
        Check.due("worst(2) of an empty log", empty.worst(2), -2);
        for (int what : Edges.FAR_OFF) {
            Check.due("worst(" + what + ")", x.worst(what), -2);
            Check.due("worst(" + what + ") of an empty log", empty.worst(what), -2);
        }
    }

    private static void worst(String when, DependentReplay x, int entry, int orphans) {
        Check.due("worst(0): " + when, x.worst(0), entry);
        Check.due("worst(1): " + when, x.worst(1), orphans);
    }

    // ---- unlike

    @Holds(at = "Promise 20", sentence = "Tells which files would be otherwise (there or not, in another directory, or with another value)")
    static void waysToBeOtherwise() {
        Check.due("an empty log", new DependentReplay().unlike(), 0);
        Check.due("a full log", Edges.chain(Edges.ENTRIES).unlike(), 0);
        Check.due("there or not", Check.after("wp=1;mp/a;l0").unlike(), 1 << 15);
        Check.due("in another directory alone", Check.after("mb/a;mc/a;wc=4;vc/b;l2").unlike(), Check.setOf(2));
        Check.due("with another value alone", Check.after("mb/a;wb=4;wb=7;l1").unlike(), Check.setOf(1));
        Check.due("a value 0 that was written", Check.after("mb/a;wb=4;wb=0;l1").unlike(), 0);
    }

    @Holds(at = "Promise 20", sentence = "if the replay began anew, by dependencies until nothing is ready")
    static void unlikeForgetsTheRounds() {
        DependentReplay x = Check.after("wb=1;mb/a;wb=3");
        Check.due("nothing is replayed yet", x.unlike(), 0);
        x.round();
        Check.due("after one round", x.unlike(), 0);
        x.replay();
        Check.due("after all", x.unlike(), 0);
        DependentReplay y = Edges.deepTree();
        y.lose(0);
        y.round();
        Check.due("orphans alone, all refused as written", y.unlike(), 0);
        Check.due("fifteen rounds", Edges.deepTree().unlike(), 0);
    }

    @Holds(at = "Promise 20", sentence = "from what they would be if all entries that are not lost (orphans, too) were replayed in the order of writing")
    static void orphansInTheOrderOfWriting() {
        DependentReplay x = Check.after("wb=1;mb/a;mc/b;wc=3;l0");
        Check.due("orphans", x.unlike(), Check.setOf(1, 2));
        x.lose(2);
        Check.due("a lost one is not replayed", x.unlike(), Check.setOf(1));
        x.lose(1);
        x.lose(3);
        Check.due("all are lost", x.unlike(), 0);
        Check.due("a drop that comes too early by dependencies", Check.after("mb/a;mc/b;wc=1;vc/a;db").unlike(), Check.setOf(1));
        Check.due("one that comes too early as written", Check.after("mb/a;mc/b;wd=1;wd=2;wd=3;db;vc/a;n5<4").unlike(), Check.setOf(1));
    }

    @Holds(at = "Promise 20", sentence = "(some refused, as they come)")
    static void refusedInTheOrderOfWriting() {
        Check.due("no file and no directory", Check.after("mb/a;wb=5;mc/b;l0").unlike(), 0);
        Check.due("there already", Check.after("wp=1;mb/a;wb=5;mb/a;l0").unlike(), 0);
        Check.due("refused in both orders", Check.after("mb/c;mc/a;vc/c;vd/a;dd").unlike(), 0);
    }
}
