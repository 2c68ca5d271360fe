/** The boundary cases of promises 7 to 11. */
public final class ReplayingEdgesTest {
    public static void main(String[] arguments) throws Exception {
        Edges.run(ReplayingEdgesTest.class);
    }

    // ---- lose

    @Holds(at = "Promise 7", sentence = "Returns how many orphans there are then")
    static void fewestAndMostOrphansOfALoss() {
        DependentReplay x = Edges.chain(Edges.ENTRIES);
        Check.due("the last one", x.lose(39), 0);
        Check.due("the first one", x.lose(0), 38);
        Check.due("an orphan", x.lose(1), 37);
        Check.due("the only entry", Check.after("mb/a").lose(0), 0);
    }

    @Holds(at = "Promise 7", sentence = "NO_SUCH if there is no such entry")
    static void loseNoEntry() {
        Check.due("in an empty log", new DependentReplay().lose(0), -1);
        DependentReplay x = Edges.chain(Edges.ENTRIES);
        Check.due("lose(40)", x.lose(40), -1);
        for (int none : Edges.FAR_OFF) {
            Check.due("lose(" + none + ")", x.lose(none), -1);
        }
        x.undo();
        Check.due("one that was undone", x.lose(39), -1);
        Check.due("none is lost", x.count(1), 0);
    }

    @Holds(at = "Promise 7", sentence = "NOT_POSSIBLE if it is lost already")
    static void loseALostOne() {
        DependentReplay x = Check.after("mb/a;wb=1");
        Check.due("lose(0)", x.lose(0), 1);
        Check.due("once more", x.lose(0), -5);
        Check.due("an orphan is not lost yet", x.lose(1), 0);
        Check.due("but then", x.lose(1), -5);
        x.find(0);
        Check.due("found again", x.lose(0), 0);
        Check.due("no such entry", x.lose(2), -1);
    }

    @Holds(at = "Promise 7", sentence = "This is a change.")
    static void loseIsAChange() {
        aChange("lose(0)", y -> y.lose(0));
    }

    // ---- find

    @Holds(at = "Promise 8", sentence = "Returns how many orphans there are then")
    static void fewestAndMostOrphansOfAFind() {
        DependentReplay x = Edges.chain(Edges.ENTRIES);
        x.lose(39);
        x.lose(0);
        Check.due("one becomes an orphan itself", x.find(39), 39);
        Check.due("none is left", x.find(0), 0);
        x.lose(0);
        x.lose(1);
        Check.due("the other one is lost yet", x.find(0), 38);
    }

    @Holds(at = "Promise 8", sentence = "NO_SUCH if there is no such entry")
    static void findNoEntry() {
        Check.due("in an empty log", new DependentReplay().find(0), -1);
        DependentReplay x = Edges.chain(Edges.ENTRIES);
        x.lose(0);
        Check.due("find(40)", x.find(40), -1);
        for (int none : Edges.FAR_OFF) {
            Check.due("find(" + none + ")", x.find(none), -1);
        }
        Check.due("the lost one stays lost", x.set(0), 1);
    }

    @Holds(at = "Promise 8", sentence = "NOT_POSSIBLE if it is not lost")
    static void findOneThatIsNotLost() {
        DependentReplay x = Check.after("mb/a;wb=1");
        Check.due("never lost", x.find(0), -5);
        x.lose(0);
        Check.due("an orphan", x.find(1), -5);
        Check.due("the lost one", x.find(0), 0);
        Check.due("once more", x.find(0), -5);
        Check.due("no such entry", x.find(2), -1);
    }

    @Holds(at = "Promise 8", sentence = "This is a change.")
    static void findIsAChange() {
        aChange("find(2)", y -> y.find(2));
    }

    // ---- beginAnew

    @Holds(at = "Promise 9", sentence = "Returns how many entries were replayed.")
    static void beginAnewReturns() {
        DependentReplay x = new DependentReplay();
        Check.due("an empty log", x.beginAnew(), 0);
        DependentReplay y = Edges.chain(Edges.ENTRIES);
        Check.due("none yet", y.beginAnew(), 0);
        y.replay();
        Check.due("all, which were refused", y.beginAnew(), 40);
        Check.due("none any more", y.beginAnew(), 0);
    }

    @Holds(at = "Promise 9", sentence = "Begins the replay anew. This is a change.")
    static void beginAnewIsAChange() {
        aChange("beginAnew()", y -> y.beginAnew());
        DependentReplay x = new DependentReplay();
        x.beginAnew();
        Check.due("changes, also if nothing is different", x.count(9), 1);
    }

    // ---- round

    @Holds(at = "Promise 10", sentence = "(A round in which nothing is ready counts, too.)")
    static void emptyRound() {
        DependentReplay x = new DependentReplay();
        Check.due("in an empty log", x.round(), 0);
        Check.due("rounds", x.count(5), 1);
        Check.due("changes", x.count(9), 1);
        Check.due("the widest", x.count(7), 0);
        x.make(1, 0);
        Check.due("one entry", x.round(), 1);
        Check.due("its round", x.ofEntry(0, 5), 1);
        Check.due("all are replayed", x.round(), 0);
        Check.due("rounds", x.count(5), 3);
        x.lose(0);
        Check.due("all are lost", x.round(), 0);
        Check.due("rounds", x.count(5), 1);
        x.undo();
        Check.due("undone", x.count(5), 0);
    }

    @Holds(at = "Promise 10", sentence = "Returns how many entries are replayed by it.")
    static void fewestAndMostOfARound() {
        DependentReplay x = Edges.wideLog();
        Check.due("fifteen files", x.round(), 15);
        Check.due("none", x.round(), 0);
        DependentReplay y = Edges.chain(Edges.ENTRIES);
        for (int round = 0; round < Edges.ENTRIES; round++) {
            Check.due("one in round " + round, y.round(), 1);
        }
        Check.due("none is left", y.round(), 0);
    }

    @Holds(at = "Promise 10", sentence = "Makes a round. This is a change.")
    static void roundIsAChange() {
        aChange("round()", y -> y.round());
    }

    // ---- replay

    @Holds(at = "Promise 11", sentence = "Makes rounds until nothing is ready.")
    static void mostRounds() {
        DependentReplay x = Edges.chain(Edges.ENTRIES);
        Check.due("forty rounds", x.replay(), 40);
        Check.due("nothing is ready", x.set(4), 0);
        Check.due("the round of the last one", x.ofEntry(39, 5), 39);
        Check.due("the replayed ones", x.set(2), Edges.ALL_ENTRIES);
        DependentReplay y = Check.after("mb/a;wb=1;wb=2;mc/a;l1");
        Check.due("orphans are not waited for", y.replay(), 1);
        Check.due("the replayed ones", y.set(2), Check.setOf(0, 3));
    }

    @Holds(at = "Promise 11", sentence = "(One in which nothing is ready is not made.)")
    static void noEmptyRound() {
        DependentReplay x = new DependentReplay();
        Check.due("an empty log", x.replay(), 0);
        Check.due("rounds", x.count(5), 0);
        x.make(1, 0);
        Check.due("one round", x.replay(), 1);
        Check.due("rounds", x.count(5), 1);
        Check.due("once more", x.replay(), 0);
        Check.due("rounds", x.count(5), 1);
        x.lose(0);
        Check.due("all are lost", x.replay(), 0);
        Check.due("rounds", x.count(5), 0);
    }

    @Holds(at = "Promise 11", sentence = "Returns how many rounds it makes.")
    static void onlyItsOwnRounds() {
        DependentReplay x = Check.after("mb/a;wb=1;wb=2;r");
        Check.due("two more", x.replay(), 2);
        Check.due("rounds", x.count(5), 3);
        x.round();
        x.write(1, 3);
        Check.due("one more, behind an empty one", x.replay(), 1);
        Check.due("its round", x.ofEntry(3, 5), 4);
    }

    @Holds(at = "Promise 11", sentence = "This is a change.")
    static void replayIsAChange() {
        aChange("replay()", y -> y.replay());
        DependentReplay x = new DependentReplay();
        x.replay();
        Check.due("changes, also if no round is made", x.count(9), 1);
    }

    private static void aChange(String what, Check.Call call) {
        DependentReplay x = Check.after("mb/a;mc/b;wc=1;wb=2;l2;r");
        String before = Check.state(x);
        call.on(x);
        Check.due("changes after " + what, x.count(9), 2);
        Check.due("it is otherwise after " + what, Check.state(x).equals(before) ? 1 : 0, 0);
        Check.due("undo", x.undo(), 1);
        Check.due("all after " + what + " and undo", Check.state(x), before);
    }
}
