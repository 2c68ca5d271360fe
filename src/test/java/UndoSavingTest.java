/** Promises 25 to 27: undo and saved states. */
public final class UndoSavingTest {
    private static final String START = "mb/a;mc/b;wc=1;l2;r";

    public static void main(String[] arguments) {
        promise25EachChange();
        promise25LeaningAndRefused();
        promise25NoChange();
        promise25Six();
        promise25PadAndSlots();
        promise25AfterUndo();
        promise26Save();
        promise26Overwrites();
        promise27Restore();
        promise27OtherLog();
        promise27Wrong();
        Check.end();
    }

    private static void promise25EachChange() {
        undone("make", y -> y.make(3, 0));
        undone("write", y -> y.write(1, 5));
        undone("move", y -> y.move(1, 2));
        undone("drop", y -> y.drop(1));
        undone("need", y -> y.need(2, 0));
        undone("need, also if it does already", y -> y.need(1, 0));
        undone("lose", y -> y.lose(0));
        undone("find", y -> y.find(2));
        undone("beginAnew", y -> y.beginAnew());
        undone("round", y -> y.round());
        undone("replay", y -> y.replay());
        undone("carryOut", y -> Check.carryOut(y, "md/a;r;f2;n2<0"));
        undone("carryOut of none", y -> Check.carryOut(y, "l2"));
        undone("restore", y -> {
            y.save(1);
            return y.restore(1);
        });
    }

    private static void undone(String what, Check.Call call) {
        DependentReplay x = Check.after(START);
        String before = Check.state(x);
        Check.due(what + " is done", call.on(x) >= 0 ? 1 : 0, 1);
        Check.due(what + " is a change", x.count(9), 2);
        Check.due("undo of " + what, x.undo(), 1);
        Check.due("state after " + what + " and undo", Check.state(x), before);
        Check.due("history", x.count(9), 1);
    }

    private static void promise25LeaningAndRefused() {
        DependentReplay x = Check.after("mb/a;mc/a;mb/a");
        x.need(1, 0);
        x.undo();
        x.lose(0);
        Check.due("what was told does not make an orphan any more", x.set(1), Check.setOf(2));
        Check.due("nor wants it", x.wants(1), 0);
        x.undo();
        x.replay();
        Check.due("refused", x.set(3), Check.setOf(2));
        x.undo();
        Check.due("not refused any more", x.set(3), 0);
        Check.due("nor counted", x.count(4), 0);
    }

    private static void promise25NoChange() {
        DependentReplay x = new DependentReplay();
        Check.refused("undo of nothing", x, -5, y -> y.undo());
        x.save(0);
        x.put('r');
        x.wipe();
        x.fault();
        x.carryOut();
        x.depth(0);
        x.worst(0);
        x.unlike();
        x.make(0, 0);
        x.lose(0);
        x.restore(1);
        Check.due("nothing of this is a change", x.count(9), 0);
        Check.due("undo", x.undo(), -5);
    }

    private static void promise25Six() {
        DependentReplay x = new DependentReplay();
        for (int value = 0; value < 9; value++) {
            x.write(1, value);
            Check.due("changes", x.count(9), Math.min(value + 1, 6));
        }
        for (int left = 5; left >= 0; left--) {
            Check.due("undo", x.undo(), left);
            Check.due("entries", x.count(0), left + 3);
        }
        Check.due("none is left", x.undo(), -5);
        Check.due("the oldest ones were dropped", x.count(0), 3);
    }

    private static void promise25PadAndSlots() {
        DependentReplay x = new DependentReplay();
        x.make(1, 0);
        x.put(Check.packed("mc/a"));
        x.save(0);
        Check.due("undo", x.undo(), 0);
        Check.due("the pad stays", x.count(8), 4);
        Check.due("the slot stays", x.restore(0), 1);
        Check.due("its entry", x.ofEntry(0, 1), 1);
        x.carryOut();
        Check.due("undo of a text", x.undo(), 1);
        Check.due("the pad does not come back", x.count(8), 0);
    }

    private static void promise25AfterUndo() {
        DependentReplay x = new DependentReplay();
        for (int value = 0; value < 8; value++) {
            x.write(1, value);
        }
        x.undo();
        x.undo();
        Check.due("a new change", x.make(2, 0), 6);
        Check.due("changes", x.count(9), 5);
        x.lose(6);
        x.lose(5);
        Check.due("changes", x.count(9), 6);
        x.undo();
        Check.due("lost", x.set(0), Check.setOf(6));
        x.undo();
        Check.due("lost", x.set(0), 0);
        x.undo();
        Check.due("entries", x.count(0), 6);
        Check.due("the value of the last one", x.ofEntry(5, 2), 5);
        Check.due("undo", x.undo(), 2);
        Check.due("the dropped one does not come back", x.undo() + x.undo(), 1);
        Check.due("undo", x.undo(), -5);
        Check.due("entries", x.count(0), 3);
    }

    private static void promise26Save() {
        DependentReplay x = Check.after(START);
        Check.put(x, "mb/");
        String before = Check.all(x);
        Check.due("save(0)", x.save(0), 3);
        Check.due("save(1)", x.save(1), 3);
        Check.due("nothing else is otherwise", Check.all(x), before);
        Check.due("save(2)", x.save(2), -2);
        Check.due("save(-1)", x.save(-1), -2);
        Check.due("an empty log", new DependentReplay().save(1), 0);
    }

    private static void promise26Overwrites() {
        DependentReplay x = new DependentReplay();
        x.make(1, 0);
        x.save(0);
        x.make(2, 0);
        x.save(1);
        x.make(3, 0);
        Check.due("save(0) again", x.save(0), 3);
        Check.due("the other slot is its own", x.restore(1), 2);
        Check.due("the overwritten one", x.restore(0), 3);
        Check.due("a wrong slot overwrites nothing", x.save(2), -2);
        Check.due("slot 1", x.restore(1), 2);
    }

    private static void promise27Restore() {
        DependentReplay x = Check.after(START);
        String before = Check.state(x);
        x.save(0);
        Check.carryOut(x, "md/b;f2;n2<0;r");
        Check.put(x, "r;");
        Check.due("restore(0)", x.restore(0), 3);
        Check.due("the state", Check.state(x), before);
        Check.due("the pad is as it was", x.count(8), 2);
        Check.due("a change", x.count(9), 3);
        x.lose(0);
        x.write(4, 4);
        Check.due("the slot keeps it", x.restore(0), 3);
        Check.due("lost", x.set(0), Check.setOf(2));
        Check.due("replayed", x.set(2), Check.setOf(0));
        Check.due("also if nothing is different then", x.restore(0), 3);
        Check.due("changes", x.count(9), 6);
        x.undo();
        x.undo();
        Check.due("before the restoring", x.count(0), 4);
    }

    private static void promise27OtherLog() {
        DependentReplay x = Check.after("vb/c;wd=5;mb/a");
        x.replay();
        String before = Check.state(x);
        x.save(1);
        x.undo();
        x.undo();
        Check.carryOut(x, "wf=8;mg/a;dg;mh/a;r");
        Check.due("restore(1)", x.restore(1), 3);
        Check.due("nothing of the other log", Check.state(x), before);
        Check.due("undo", x.undo(), 1);
        Check.due("the other log", x.ofEntry(0, 2), 8);
        Check.due("its length", x.count(0), 4);
    }

    private static void promise27Wrong() {
        DependentReplay x = Check.after(START);
        x.save(1);
        Check.refused("restore(0)", x, -5, y -> y.restore(0));
        Check.due("restore(2)", x.restore(2), -2);
        Check.due("restore(-1)", x.restore(-1), -2);
        Check.due("restore(min)", x.restore(Integer.MIN_VALUE), -2);
        Check.due("restore(1)", x.restore(1), 3);
        Check.due("a new object has nothing in its slots", new DependentReplay().restore(1), -5);
    }
}
