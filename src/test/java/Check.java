/** What the tests share: counting wrong answers, filling the pad, and looking at a whole object. */
final class Check {
    private static int wrong = 0;
    private static int asked = 0;
    /** What the answers hold that are asked for now, if a test says it. */
    private static String held = "";

    private Check() {
    }

    static void nowHeld(String sentence) {
        held = sentence + ": ";
    }

    static int asked() {
        return asked;
    }

    static void due(String what, long got, long want) {
        asked++;
        if (got != want) {
            wrong++;
            System.out.println(held + what + " answered " + got + ", due is " + want);
        }
    }

    static void due(String what, String got, String want) {
        asked++;
        if (!got.equals(want)) {
            wrong++;
            System.out.println(held + what + " is [" + got + "], due is [" + want + "]");
        }
    }

    /** Ends the test, with exit code 1 if an answer was wrong. */
    static void end() {
        System.out.println(wrong == 0 ? asked + " answers are as due" : wrong + " of " + asked + " answers are not as due");
        System.exit(wrong == 0 ? 0 : 1);
    }

    /** A set of entries or files. */
    static long setOf(int... numbers) {
        long set = 0;
        for (int number : numbers) {
            set |= 1L << number;
        }
        return set;
    }

    /** The number that put() takes for a text of up to eight characters. */
    static long packed(String text) {
        long characters = 0;
        for (int i = 0; i < text.length(); i++) {
            characters = characters << 8 | text.charAt(i);
        }
        return characters;
    }

    /** Appends a text of any length; returns the last answer of put(). */
    static int put(DependentReplay x, String text) {
        int answer = 0;
        for (int from = 0; from < text.length(); from += 8) {
            answer = x.put(packed(text.substring(from, Math.min(from + 8, text.length()))));
        }
        return answer;
    }

    /** Empties the pad, puts a text there, and carries it out. */
    static int carryOut(DependentReplay x, String text) {
        x.wipe();
        put(x, text);
        return x.carryOut();
    }

    /** A new object, on which a text was carried out in full. */
    static DependentReplay after(String text) {
        DependentReplay x = new DependentReplay();
        int orders = text.split(";").length;
        due("carryOut() of " + text, carryOut(x, text), orders);
        return x;
    }

    /** Everything that undo() and restore() bring back, as a text: some 120 calls and 12 more for each entry. */
    static String state(DependentReplay x) {
        StringBuilder text = new StringBuilder();
        int entries = x.count(0);
        for (int what = 0; what <= 7; what++) {
            text.append(x.count(what)).append(' ');
        }
        for (int entry = 0; entry < entries; entry++) {
            text.append("| ");
            for (int what = 0; what <= 8; what++) {
                text.append(x.ofEntry(entry, what)).append(' ');
            }
            text.append(x.dependsOn(entry)).append(' ').append(x.wants(entry)).append(' ').append(x.depth(entry)).append(' ');
        }
        text.append("| ");
        for (int file = 0; file <= 15; file++) {
            for (int what = 0; what <= 5; what++) {
                text.append(x.ofFile(file, what)).append(' ');
            }
        }
        for (int what = 0; what <= 4; what++) {
            text.append(x.set(what)).append(' ');
        }
        text.append(x.worst(0)).append(' ').append(x.worst(1)).append(' ').append(x.unlike());
        return text.toString();
    }

    /** The state, the pad and the length of the history, as a text. */
    static String all(DependentReplay x) {
        return state(x) + " pad " + x.count(8) + " fault " + x.fault() + " history " + x.count(9);
    }

    /** A call on an object. */
    interface Call {
        long on(DependentReplay x);
    }

    /** Runs a call that has to return an error and to change nothing. */
    static void refused(String what, DependentReplay x, long error, Call call) {
        String before = all(x);
        due(what, call.on(x), error);
        due("all after " + what, all(x), before);
    }
}
