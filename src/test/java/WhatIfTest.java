/** Promises 17 to 20: what if. */
public final class WhatIfTest {
    public static void main(String[] arguments) {
        promise17Depth();
        promise18Wants();
        promise19Worst();
        promise19Several();
        promise20Unlike();
        promise20LostAndOrphans();
        nothingChanges();
        Check.end();
    }

    private static void promise17Depth() {
        DependentReplay x = Check.after("mb/a;mc/b;wc=1;md/a;vd/c;mb/a;r;r");
        int[] due = {0, 1, 2, 0, 3, 1};
        for (int entry = 0; entry < due.length; entry++) {
            Check.due("depth(" + entry + ")", x.depth(entry), due[entry]);
        }
        Check.due("entry 6", x.depth(6), -1);
        Check.due("entry -1", x.depth(-1), -1);
        Check.due("entry 40", x.depth(40), -1);
        x.need(3, 2);
        Check.due("with a told dependency", x.depth(3), 3);
        Check.due("the next one", x.depth(4), 4);
        x.lose(1);
        Check.due("a lost one", x.depth(1), -6);
        Check.due("an orphan", x.depth(4), -6);
        Check.due("another one", x.depth(5), 1);
        x.round();
        x.round();
        x.round();
        x.write(9, 1);
        Check.due("not from the rounds that were made", x.depth(6), 0);
        DependentReplay y = new DependentReplay();
        for (int entry = 0; entry < 40; entry++) {
            y.drop(7);
        }
        Check.due("the deepest", y.depth(39), 39);
    }

    private static void promise18Wants() {
        DependentReplay x = Check.after("mb/a;mc/b;wc=1;md/a;vd/c");
        Check.due("nothing is lost", x.wants(4), 0);
        x.lose(0);
        x.lose(2);
        x.lose(4);
        Check.due("itself", x.wants(0), Check.setOf(0));
        Check.due("what an orphan leans on", x.wants(1), Check.setOf(0));
        Check.due("both", x.wants(2), Check.setOf(0, 2));
        Check.due("nothing", x.wants(3), 0);
        Check.due("through others", x.wants(4), Check.setOf(0, 2, 4));
        Check.due("entry 5", x.wants(5), -1);
        Check.due("entry -1", x.wants(-1), -1);
        Check.due("entry 64", x.wants(64), -1);
    }

    private static void promise19Worst() {
        DependentReplay x = new DependentReplay();
        Check.due("no entry", x.worst(0), -6);
        Check.due("no entry", x.worst(1), -6);
        Check.due("what first", x.worst(2), -2);
        Check.due("what -1", x.worst(-1), -2);
        x.make(1, 0);
        Check.due("one entry", x.worst(0), 0);
        Check.due("no orphans", x.worst(1), 0);
        x.lose(0);
        Check.due("all are lost", x.worst(0), -6);
        Check.due("all are lost", x.worst(1), -6);
        Check.due("what 2 of none", x.worst(2), -2);
        Check.carryOut(x, "mc/a;wc=1;wc=2;wc=3");
        Check.due("a later one", x.worst(0), 1);
        Check.due("its orphans", x.worst(1), 3);
    }

    private static void promise19Several() {
        DependentReplay x = Check.after("mb/a;mc/a;wc=1;wb=1;md/a");
        Check.due("of several the lowest one", x.worst(0), 0);
        Check.due("one orphan", x.worst(1), 1);
        x.lose(1);
        Check.due("with those that there are", x.worst(1), 2);
        Check.due("the entry", x.worst(0), 0);
        DependentReplay y = Check.after("mb/a;wb=1;wb=2;mc/a;l0");
        Check.due("an orphan that is lost is none any more", y.worst(0), 3);
        Check.due("those that there are", y.worst(1), 2);
        DependentReplay z = Check.after("mb/a;mc/b;wb=1;wc=1;l0");
        Check.due("only orphans are left", z.worst(0), 1);
        Check.due("two of them stay", z.worst(1), 2);
    }

    private static void promise20Unlike() {
        Check.due("an empty log", new DependentReplay().unlike(), 0);
        Check.due("the same", Check.after("mb/a;mc/b;wc=1;vb/a").unlike(), 0);
        Check.due("not there in the order of writing", Check.after("mb/a;wc=1;md/a;mb/a;we=1").unlike(), 0);
        DependentReplay x = Check.after("mb/a;mc/b;wc=1;vc/a;db");
        Check.due("the drop comes too early: file 1 stays by dependencies", x.unlike(), Check.setOf(1));
        DependentReplay y = Check.after("mb/a;mc/a;vb/c;vc/a;vd/c;wb=5;mb/a");
        Check.due("the same again", y.unlike(), 0);
        DependentReplay z = Check.after("mb/a;wb=1;wb=2;mc/a;vb/c;dc;mc/a");
        Check.due("the drop is refused either way", z.unlike(), 0);
        Check.due("looking makes no round", z.count(5), 0);
    }

    private static void promise20LostAndOrphans() {
        DependentReplay x = Check.after("mb/a;mc/a;wc=4;vc/b;wc=7;l2");
        Check.due("orphans move and write in the order of writing", x.unlike(), Check.setOf(2));
        DependentReplay y = Check.after("mb/a;mc/a;wc=4;wc=7;l2");
        Check.due("another value alone", y.unlike(), Check.setOf(2));
        DependentReplay z = Check.after("mb/a;mc/a;wc=4;vc/b;l2");
        Check.due("another directory alone", z.unlike(), Check.setOf(2));
        DependentReplay w = Check.after("wb=1;mb/a;mc/b;l0");
        Check.due("there or not", w.unlike(), Check.setOf(1, 2));
        w.lose(1);
        Check.due("lost ones are not replayed in the order of writing", w.unlike(), 0);
        DependentReplay v = Check.after("mb/a;wb=3;l1;r");
        Check.due("a lost value", v.unlike(), 0);
        DependentReplay u = Check.after("wb=1;mb/a;l0;r;r");
        Check.due("not from what was replayed", u.unlike(), Check.setOf(1));
    }

    private static void nothingChanges() {
        DependentReplay x = Check.after("mb/a;mc/b;wc=1;l1;r");
        Check.put(x, "r;");
        String before = Check.all(x);
        x.depth(2);
        x.wants(2);
        x.worst(0);
        x.worst(1);
        x.unlike();
        Check.due("all", Check.all(x), before);
    }
}
