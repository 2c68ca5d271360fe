/** The boundary cases of promises 25 to 27. */
public final class UndoSavingEdgesTest {
    private static final String START = "mb/a;mc/b;wc=1;l2;r";

    public static void main(String[] arguments) throws Exception {
        Edges.run(UndoSavingEdgesTest.class);
    }

    // ---- undo

    @Holds(at = "Promise 25", sentence = "everything except the pad, the slots and the history is as it was before it")
    static void padAndSlotsStay() {
        DependentReplay x = new DependentReplay();
        x.save(0);
        x.make(1, 0);
        x.save(1);
        Check.put(x, "mb/");
        Check.due("undo", x.undo(), 0);
        Check.due("the pad stays", x.count(8), 3);
        Check.due("its fault stays", x.fault(), 3);
        Check.due("slot 1 stays", x.restore(1), 1);
        Check.due("slot 0 stays", x.restore(0), 0);
    }

    @Holds(at = "Promise 25", sentence = "everything except the pad, the slots and the history is as it was before it")
    static void allOfAFullLogComesBack() {
        DependentReplay x = Edges.chain(39);
        x.replay();
        x.drop(2);
        String before = Edges.brief(x);
        Check.due("need", x.need(39, 0), 1);
        Check.due("lose", x.lose(38), 0);
        Check.due("rounds", x.replay(), 38);
        for (int left = 5; left >= 3; left--) {
            Check.due("undo", x.undo(), left);
        }
        Check.due("all but the history", Edges.brief(x), before);
        Check.due("orphans of the first one", x.lose(0), 38);
    }

    @Holds(at = "Promise 25", sentence = "everything except the pad, the slots and the history is as it was before it")
    static void allFilesComeBack() {
        DependentReplay x = Edges.deepTree();
        String before = Edges.tree(x);
        Check.due("orders", Check.carryOut(x, "wp=9;dp;vo/a;r;r"), 5);
        Check.due("files", x.count(6), 15);
        x.undo();
        Check.due("the tree", Edges.tree(x), before);
        x.beginAnew();
        x.undo();
        Check.due("the tree once more", Edges.tree(x), before);
    }

    @Holds(at = "Promise 25", sentence = "A history of at most 6 states is kept")
    static void sixStates() {
        DependentReplay x = new DependentReplay();
        for (int rounds = 1; rounds <= 6; rounds++) {
            x.round();
            Check.due("changes after " + rounds, x.count(9), rounds);
        }
        x.round();
        Check.due("changes after seven", x.count(9), 6);
        for (int left = 5; left >= 0; left--) {
            Check.due("undo", x.undo(), left);
            Check.due("rounds", x.count(5), left + 1);
        }
        Check.due("the seventh cannot be undone", x.undo(), -5);
        Check.due("rounds", x.count(5), 1);
    }

    @Holds(at = "Promise 25", sentence = "each method that is a change, and returns no error, records the state before it (also if nothing is different then)")
    static void recordsIfNothingIsDifferent() {
        recorded("beginAnew()", y -> y.beginAnew());
        recorded("replay()", y -> y.replay());
        recorded("carryOut() of none", y -> Check.carryOut(y, "l9"));
        recorded("need(0, 0) in a text", y -> Check.carryOut(y, "n0<0"));
        recorded("restore(0) of the same", y -> {
            y.save(0);
            return y.restore(0);
        });
        DependentReplay x = Check.after("mb/a;mc/b");
        Check.due("need(1, 0), which it does already", x.need(1, 0), 1);
        Check.due("changes", x.count(9), 2);
    }

    private static void recorded(String what, Check.Call call) {
        DependentReplay x = new DependentReplay();
        Check.due(what, call.on(x), 0);
        Check.due("changes after " + what, x.count(9), 1);
        Check.due("undo of " + what, x.undo(), 0);
    }

    @Holds(at = "Promise 25", sentence = "each method that is a change, and returns no error, records the state before it")
    static void recordsNoErrorsAndNoOthers() {
        DependentReplay x = Check.after(START);
        x.make(0, 0);
        x.write(1, 1000);
        x.move(1, 16);
        x.drop(0);
        x.need(0, 0);
        x.lose(2);
        x.find(0);
        x.restore(0);
        x.carryOut();
        Check.due("refused calls are none", x.count(9), 1);
        x.save(0);
        x.put('r');
        x.wipe();
        x.fault();
        x.depth(0);
        x.wants(0);
        x.worst(0);
        x.unlike();
        Check.due("nor calls that are no changes", x.count(9), 1);
        Check.due("nor is undo", x.undo(), 0);
        Check.due("there is no way back from it", x.undo(), -5);
    }

    @Holds(at = "Promise 25", sentence = "when one more is recorded, the oldest one is dropped")
    static void oldestIsDropped() {
        DependentReplay x = new DependentReplay();
        int rounds = 0;
        for (int times = 0; times < 20; times++) {
            for (int more = 0; more < 7; more++) {
                x.round();
            }
            rounds += 7;
            Check.due("undo", x.undo(), 5);
            Check.due("undo", x.undo(), 4);
            rounds -= 2;
            Check.due("rounds", x.count(5), rounds);
        }
        for (int left = 3; left >= 0; left--) {
            Check.due("undo", x.undo(), left);
            rounds--;
            Check.due("rounds", x.count(5), rounds);
        }
        Check.due("none is left", x.undo(), -5);
        Check.due("rounds", x.count(5), rounds);
    }

    @Holds(at = "Promise 25", sentence = "An order of a text records nothing by itself.")
    static void ordersRecordNothing() {
        DependentReplay x = new DependentReplay();
        Check.carryOut(x, "mb/a;wb=1;vb/a;db;l0;f0;n3<0;r");
        Check.due("changes", x.count(9), 1);
        Check.due("undo", x.undo(), 0);
        Check.due("entries", x.count(0), 0);
        for (int change = 0; change < 6; change++) {
            x.round();
        }
        Check.carryOut(x, "r;r;r;r;r;r;r");
        Check.due("undo", x.undo(), 5);
        Check.due("rounds", x.count(5), 6);
    }

    @Holds(at = "Promise 25", sentence = "Returns how many changes can be undone then; NOT_POSSIBLE if there is none.")
    static void nothingToUndo() {
        DependentReplay x = new DependentReplay();
        Check.due("a new object", x.undo(), -5);
        x.make(1, 0);
        Check.due("one change", x.undo(), 0);
        Check.due("entries", x.count(0), 0);
        Check.due("none any more", x.undo(), -5);
        Check.due("changes", x.count(9), 0);
        x.make(16, 0);
        Check.due("a refused call is none", x.undo(), -5);
    }

    // ---- save

    @Holds(at = "Promise 26", sentence = "`slot`: 0 or 1")
    static void bothSlots() {
        DependentReplay x = new DependentReplay();
        Check.due("save(-1)", x.save(-1), -2);
        Check.due("save(0)", x.save(0), 0);
        x.make(1, 0);
        Check.due("save(1)", x.save(1), 1);
        Check.due("save(2)", x.save(2), -2);
        Check.due("restore(0)", x.restore(0), 0);
        Check.due("restore(1)", x.restore(1), 1);
    }

    @Holds(at = "Promise 26", sentence = "Saves everything except the pad, the history and the slots in a slot")
    static void savesNoPadAndNoHistory() {
        DependentReplay x = Check.after(START);
        Check.put(x, "mb/a");
        String before = Check.state(x);
        x.save(0);
        Check.due("it is no change", x.count(9), 1);
        x.wipe();
        x.undo();
        Check.due("restore(0)", x.restore(0), 3);
        Check.due("all that was saved", Check.state(x), before);
        Check.due("the pad does not come back", x.count(8), 0);
        Check.due("nor does the history", x.count(9), 1);
        Check.due("the other slot is empty", x.restore(1), -5);
    }

    @Holds(at = "Promise 26", sentence = "and overwrites what was saved there")
    static void overwritesTheSlot() {
        DependentReplay x = Edges.chain(Edges.ENTRIES);
        Check.due("a full log", x.save(1), 40);
        Check.due("and in the other", x.save(0), 40);
        x.undo();
        Check.due("one entry less", x.save(1), 39);
        Check.due("restore(1)", x.restore(1), 39);
        Check.due("the other one stays", x.restore(0), 40);
    }

    @Holds(at = "Promise 26", sentence = "Returns how many entries there are")
    static void saveReturns() {
        Check.due("none", new DependentReplay().save(0), 0);
        DependentReplay x = Edges.chain(Edges.ENTRIES);
        x.lose(0);
        Check.due("all, lost ones, too", x.save(1), 40);
    }

    @Holds(at = "Promise 26", sentence = "BAD_VALUE if there is no such slot")
    static void saveInNoSlot() {
        DependentReplay x = new DependentReplay();
        Check.due("save(2)", x.save(2), -2);
        for (int none : Edges.FAR_OFF) {
            Check.due("save(" + none + ")", x.save(none), -2);
        }
        Check.due("nothing was saved in slot 0", x.restore(0), -5);
        Check.due("nothing was saved in slot 1", x.restore(1), -5);
    }

    // ---- restore

    @Holds(at = "Promise 27", sentence = "`slot`: 0 or 1")
    static void restoreOfBothSlots() {
        DependentReplay x = new DependentReplay();
        x.save(1);
        x.make(1, 0);
        x.save(0);
        Check.due("restore(-1)", x.restore(-1), -2);
        Check.due("restore(0)", x.restore(0), 1);
        Check.due("restore(1)", x.restore(1), 0);
        Check.due("restore(2)", x.restore(2), -2);
    }

    @Holds(at = "Promise 27", sentence = "Restores what was saved last in a slot, which keeps it.")
    static void slotKeepsIt() {
        DependentReplay x = Check.after(START);
        String before = Check.state(x);
        x.save(0);
        for (int times = 0; times < 2; times++) {
            Check.carryOut(x, "md/b;f2;n2<0;l0;r");
            Check.due("restore(0)", x.restore(0), 3);
        }
        Check.due("all that was saved", Check.state(x), before);
        x.undo();
        Check.due("undone", x.count(0), 4);
        Check.due("the slot keeps it", x.restore(0), 3);
        Check.due("lost", x.set(0), Check.setOf(2));
        Check.due("replayed", x.set(2), Check.setOf(0));
    }

    @Holds(at = "Promise 27", sentence = "Restores what was saved last in a slot, which keeps it.")
    static void lastEntriesOfAFullLogComeBack() {
        DependentReplay x = Edges.chain(Edges.ENTRIES);
        x.save(0);
        for (int times = 0; times < 6; times++) {
            x.undo();
        }
        Check.due("six other entries", Check.carryOut(x, "dp;dp;dp;dp;dp;dp"), 6);
        Check.due("restore(0)", x.restore(0), 40);
        lastEntry(x, DependentReplay.WRITE, 1, 39);
        Check.due("what the last one depends on", x.dependsOn(39), 1L << 38);
        Check.due("what leans on the first one", x.ofEntry(0, 8), 39);
        x.undo();
        lastEntry(x, DependentReplay.DROP, 15, -6);
        Check.due("what leans on the first one", x.ofEntry(0, 8), 33);
    }

    private static void lastEntry(DependentReplay x, int kind, int file, int argument) {
        Check.due("its kind", x.ofEntry(39, 0), kind);
        Check.due("its file", x.ofEntry(39, 1), file);
        Check.due("its directory or value", x.ofEntry(39, 2), argument);
    }

    @Holds(at = "Promise 27", sentence = "Restores what was saved last in a slot, which keeps it.")
    static void allFilesComeBackFromASlot() {
        DependentReplay x = Edges.deepTree();
        String before = Edges.tree(x);
        x.save(1);
        x.beginAnew();
        Check.due("restore(1)", x.restore(1), 15);
        Check.due("the tree", Edges.tree(x), before);
    }

    @Holds(at = "Promise 27", sentence = "This is a change.")
    static void restoreIsAChange() {
        DependentReplay x = Check.after(START);
        x.save(1);
        Check.due("restore(1)", x.restore(1), 3);
        Check.due("also if nothing is different", x.count(9), 2);
        for (int times = 0; times < 6; times++) {
            x.restore(1);
        }
        Check.due("at most six", x.count(9), 6);
        x.make(3, 0);
        x.restore(1);
        Check.due("entries", x.count(0), 3);
        Check.due("undo", x.undo(), 5);
        Check.due("entries before it", x.count(0), 4);
    }

    @Holds(at = "Promise 27", sentence = "Returns how many entries there are then")
    static void restoreReturns() {
        DependentReplay x = new DependentReplay();
        x.save(0);
        for (int entry = 0; entry < Edges.ENTRIES; entry++) {
            x.write(1, entry);
        }
        x.save(1);
        Check.due("an empty log", x.restore(0), 0);
        Check.due("entries", x.count(0), 0);
        Check.due("a full log", x.restore(1), 40);
        Check.due("the last one", x.ofEntry(39, 2), 39);
    }

    @Holds(at = "Promise 27", sentence = "BAD_VALUE if there is no such slot")
    static void restoreOfNoSlot() {
        DependentReplay x = new DependentReplay();
        Check.due("restore(2), and nothing was saved", x.restore(2), -2);
        x.save(0);
        x.save(1);
        Check.due("restore(2)", x.restore(2), -2);
        for (int none : Edges.FAR_OFF) {
            Check.due("restore(" + none + ")", x.restore(none), -2);
        }
        Check.due("changes", x.count(9), 0);
    }

    @Holds(at = "Promise 27", sentence = "NOT_POSSIBLE if nothing was saved in it")
    static void restoreOfAnEmptySlot() {
        DependentReplay x = Check.after(START);
        Check.due("restore(0)", x.restore(0), -5);
        Check.due("restore(1)", x.restore(1), -5);
        x.save(1);
        Check.due("the other one", x.restore(0), -5);
        Check.due("this one", x.restore(1), 3);
        x.undo();
        x.undo();
        Check.due("an undo does not empty it", x.restore(1), 3);
        Check.due("nor fill the other one", x.restore(0), -5);
    }
}
