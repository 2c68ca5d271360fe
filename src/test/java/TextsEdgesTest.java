/** The boundary cases of the term 'Texts' and of promises 21 to 24. */
public final class TextsEdgesTest {
    private static final String FILES = "abcdefghijklmnop";
    private static final String DIGITS = "0123456789";
    private static final String FIRST_DIGITS = "123456789";
    /** Each kind of order with its longest numbers. */
    private static final String ORDERS = "mb/p;wp=999;vb/a;dp;l100;f999;n999<998;r";

    public static void main(String[] arguments) throws Exception {
        Edges.run(TextsEdgesTest.class);
    }

    private static void fault(String text, int due) {
        DependentReplay x = new DependentReplay();
        Check.put(x, text);
        Check.due("fault of [" + text + "]", x.fault(), due);
    }

    private static void faultless(String... texts) {
        for (String text : texts) {
            fault(text, -6);
        }
    }

    /** Tries every character behind a text; the fault is there, or at the end or nowhere if it is one of these. */
    private static void onlyThese(String text, String characters) {
        DependentReplay x = new DependentReplay();
        for (char character = 33; character <= 126; character++) {
            x.wipe();
            Check.put(x, text + character);
            int fault = x.fault();
            boolean canStand = fault == -6 || fault == text.length() + 1;
            Check.due("fault of [" + text + character + "]", canStand ? 1 : fault == text.length() ? 0 : fault,
                characters.indexOf(character) >= 0 ? 1 : 0);
        }
    }

    // ---- the term

    @Holds(at = "Texts", sentence = "The pad is a text of at most 80 characters, a row of orders")
    static void longestText() {
        DependentReplay x = new DependentReplay();
        Check.put(x, "mp/a;".repeat(15) + "wp=12");
        Check.due("length", x.count(8), 80);
        Check.due("fault", x.fault(), -6);
        Check.due("a character more", x.put('3'), -4);
        Check.due("orders", x.carryOut(), 16);
        Check.due("the last one's value", x.ofEntry(15, 2), 12);
    }

    @Holds(at = "Texts", sentence = "text = order { \";\" order }")
    static void rowOfOrders() {
        onlyThese("", "mwvdlfnr");
        onlyThese("r", ";");
        onlyThese("r;", "mwvdlfnr");
        onlyThese("r;da", ";");
        fault(";", 0);
        fault("r;;r", 2);
        fault("r;r;", 4);
        faultless("r", "r;r", ORDERS);
    }

    @Holds(at = "Texts", sentence = "order = \"m\" file \"/\" file | \"w\" file \"=\" number | \"v\" file \"/\" file | \"d\" file")
    static void ordersOfFiles() {
        for (String order : new String[] {"m", "v"}) {
            onlyThese(order, FILES);
            onlyThese(order + "a", "/");
            onlyThese(order + "a/", FILES);
            onlyThese(order + "a/p", ";");
        }
        onlyThese("w", FILES);
        onlyThese("wa", "=");
        onlyThese("wa=", DIGITS);
        onlyThese("wa=1", DIGITS + ";");
        onlyThese("d", FILES);
        onlyThese("da", ";");
    }

    @Holds(at = "Texts", sentence = "| \"l\" number | \"f\" number | \"n\" number \"<\" number | \"r\"")
    static void ordersOfEntries() {
        for (String order : new String[] {"l", "f"}) {
            onlyThese(order, DIGITS);
            onlyThese(order + "1", DIGITS + ";");
            onlyThese(order + "0", ";");
        }
        onlyThese("n", DIGITS);
        onlyThese("n1", DIGITS + "<");
        onlyThese("n1<", DIGITS);
        onlyThese("n1<2", DIGITS + ";");
        onlyThese("n0<0", ";");
        onlyThese("r", ";");
    }

    @Holds(at = "Texts", sentence = "A file is a letter from a to p (0 to 15)")
    static void lowestAndHighestLetter() {
        DependentReplay x = Check.after("mb/a;mp/p;vp/b;wp=1;dp");
        int[][] due = {{1, 0}, {15, 15}, {15, 1}, {15, 1}, {15, -6}};
        for (int entry = 0; entry < due.length; entry++) {
            Check.due("the file of entry " + entry, x.ofEntry(entry, 1), due[entry][0]);
            Check.due("the directory or value of entry " + entry, x.ofEntry(entry, 2), due[entry][1]);
        }
        fault("mq/a", 1);
        fault("m`/a", 1);
        fault("mb/q", 3);
        fault("mB/a", 1);
        faultless("ma/a", "da", "wa=0", "va/b");
    }

    @Holds(at = "Texts", sentence = "a number is 0 to 999, without leading zeros")
    static void numbers() {
        faultless("wb=0", "wb=9", "wb=10", "wb=99", "wb=100", "wb=909", "wb=999", "l0", "f0", "n0<0", "n999<999");
        onlyThese("wb=0", ";");
        onlyThese("wb=99", DIGITS + ";");
        onlyThese("wb=999", ";");
        onlyThese("n0", "<");
        onlyThese("n99", DIGITS + "<");
        onlyThese("n100", "<");
        for (char digit : FIRST_DIGITS.toCharArray()) {
            faultless("l" + digit, "l" + digit + "0", "l" + digit + "00");
        }
    }

    @Holds(at = "Texts", sentence = "The fault is the index of the first character that cannot stand at its place when the text is read from left to right")
    static void firstFault() {
        fault("x", 0);
        fault("xr;r", 0);
        fault("rx", 1);
        fault("mb/a;x;y", 5);
        fault("mb/a;mq/q", 6);
        fault("r;".repeat(39) + "rr", 79);
        fault("r;".repeat(39) + "R;", 78);
    }

    @Holds(at = "Texts", sentence = "(also of a digit by which a number would be above 999)")
    static void digitTooMany() {
        fault("wb=1000", 6);
        fault("wb=9999", 6);
        fault("l1000", 4);
        fault("f1234", 4);
        fault("n1000<1", 4);
        fault("n1<1000", 6);
        fault("wb=10000000000", 6);
        fault("l99999999999999999999", 4);
    }

    @Holds(at = "Texts", sentence = "if there is none and the text ends too early (also if it is empty), it is the length of the text")
    static void endsTooEarly() {
        fault("", 0);
        boolean[] canEnd = new boolean[ORDERS.length() + 1];
        for (int end : new int[] {4, 9, 10, 11, 16, 19, 22, 23, 24, 27, 28, 29, 36, 37, 38, 40}) {
            canEnd[end] = true;
        }
        for (int end = 1; end <= ORDERS.length(); end++) {
            fault(ORDERS.substring(0, end), canEnd[end] ? -6 : end);
        }
        fault("r;".repeat(40), 80);
        fault("r;".repeat(38) + "mb/", 79);
    }

    // ---- put

    @Holds(at = "Promise 21", sentence = "`characters`: 1 to 8 characters")
    static void oneToEightCharacters() {
        DependentReplay x = new DependentReplay();
        int length = 0;
        for (int number = 1; number <= 8; number++) {
            length += number;
            Check.due(number + " characters", x.put(Check.packed("~".repeat(number))), length);
        }
        Check.due("eight of the lowest code", x.put(0x2121212121212121L), 44);
    }

    @Holds(at = "Promise 21", sentence = "its lowest 8 bits are the last character, the next 8 bits the one before, and so on")
    static void orderOfTheCharacters() {
        DependentReplay x = new DependentReplay();
        Check.due("mb/a;r;d", x.put(0x6d622f613b723b64L), 8);
        Check.due("b", x.put('b'), 9);
        Check.due("fault", x.fault(), -6);
        Check.due("orders", x.carryOut(), 3);
        Check.due("the kind of entry 1", x.ofEntry(1, 0), 3);
    }

    @Holds(at = "Promise 21", sentence = "8 bits that are 0 mean that there are no more characters, and everything above them has to be 0, too")
    static void noMoreCharacters() {
        DependentReplay x = new DependentReplay();
        for (int number = 1; number <= 6; number++) {
            long characters = Check.packed("r".repeat(number));
            Check.due(number + " characters and nothing above", x.put(characters), number);
            Check.due(number + " characters and the highest bit", x.put(characters | Long.MIN_VALUE), -2);
            Check.due(number + " characters and one at the top", x.put(characters | (long) 'r' << 56), -2);
            Check.due("wipe", x.wipe(), number);
        }
        Check.due("7 characters, and room for no more above the end", x.put(Check.packed("rrrrrrr")), 7);
    }

    @Holds(at = "Promise 21", sentence = "Returns the length of the pad then")
    static void shortestAndLongestPad() {
        DependentReplay x = new DependentReplay();
        for (int length = 1; length <= 80; length++) {
            Check.due("put of one character", x.put('r'), length);
        }
        x.wipe();
        Check.due("put after a wipe", x.put('r'), 1);
    }

    @Holds(at = "Promise 21", sentence = "BAD_VALUE if there is no character")
    static void noCharacter() {
        Check.due("in an empty pad", new DependentReplay().put(0), -2);
        DependentReplay x = Edges.fullPad();
        Check.due("in a full pad", x.put(0), -2);
        Check.due("length", x.count(8), 80);
    }

    @Holds(at = "Promise 21", sentence = "a code is not 33 to 126")
    static void lowestAndHighestCode() {
        for (int place = 0; place < 8; place++) {
            DependentReplay x = new DependentReplay();
            long others = 0x4141414141414141L & ~(255L << 8 * place);
            for (int code : new int[] {1, 31, 32, 127, 128, 161, 254, 255}) {
                Check.due("code " + code + " at place " + place, x.put(others | (long) code << 8 * place), -2);
            }
            Check.due("length", x.count(8), 0);
            Check.due("code 33 at place " + place, x.put(others | 33L << 8 * place), 8);
            Check.due("code 126 at place " + place, x.put(others | 126L << 8 * place), 16);
        }
        Check.due("all bits", new DependentReplay().put(-1), -2);
    }

    @Holds(at = "Promise 21", sentence = "a bit above 8 bits that are 0 is not 0")
    static void bitsAboveTheEnd() {
        DependentReplay x = new DependentReplay();
        for (int bit = 8; bit < 64; bit++) {
            Check.due("bit " + bit + " above no character", x.put(1L << bit), -2);
        }
        for (int bit = 16; bit < 64; bit++) {
            Check.due("bit " + bit + " above one character", x.put(1L << bit | 'r'), -2);
        }
        for (int shift = 16; shift < 64; shift += 8) {
            Check.due("a character at bit " + shift + " above a gap", x.put((long) 'r' << shift | 'r'), -2);
        }
        Check.due("a character above no character", x.put('r' << 8), -2);
        Check.due("length", x.count(8), 0);
    }

    @Holds(at = "Promise 21", sentence = "TOO_MANY if the pad would be longer than 80")
    static void tooLong() {
        DependentReplay x = new DependentReplay();
        Check.put(x, "r".repeat(73));
        Check.due("73 and 8", x.put(Check.packed("rrrrrrrr")), -4);
        Check.due("73 and 7", x.put(Check.packed("rrrrrrr")), 80);
        Check.due("80 and 1", x.put('r'), -4);
        DependentReplay y = new DependentReplay();
        Check.put(y, "r".repeat(72));
        Check.due("72 and 8", y.put(Check.packed("rrrrrrrr")), 80);
        y.wipe();
        Check.put(y, "r".repeat(79));
        Check.due("79 and 2", y.put(Check.packed("rr")), -4);
        Check.due("a wrong code first", y.put('r' << 8 | 32), -2);
        Check.due("79 and 1", y.put('r'), 80);
    }

    // ---- wipe and fault

    @Holds(at = "Promise 22", sentence = "Empties the pad, and returns the length that it had.")
    static void wipeEmptyAndFull() {
        DependentReplay x = Edges.fullPad();
        Check.due("a full pad", x.wipe(), 80);
        Check.due("an empty one", x.wipe(), 0);
        Check.due("its length", x.count(8), 0);
        Check.due("its fault", x.fault(), 0);
        Check.due("changes", x.count(9), 0);
        x.put('m');
        Check.due("nothing is left behind a shorter text", x.fault(), 1);
        Check.due("one character", x.wipe(), 1);
    }

    @Holds(at = "Promise 23", sentence = "Returns the fault of the pad, NONE if there is none.")
    static void faultOrNone() {
        fault("", 0);
        fault("r", -6);
        fault("r;".repeat(39) + "r", -6);
        fault("r;".repeat(38) + "da", -6);
        fault("r;".repeat(38) + "dp;r", -6);
        fault("r;".repeat(40), 80);
        DependentReplay x = Edges.fullPad();
        Check.due("asked once", x.fault(), 80);
        Check.due("asked again", x.fault(), 80);
        Check.due("the pad stays", x.count(8), 80);
    }

    // ---- carryOut

    @Holds(at = "Promise 24", sentence = "Carries the orders of the pad out, one after the other, up to the first one that returns an error, and empties the pad.")
    static void upToTheFirstError() {
        String[] texts = {"ma/a", "wa=1", "va/b", "da", "l1", "l999", "f0", "f1", "n0<0", "n1<0", "n0<1"};
        for (String text : texts) {
            DependentReplay x = new DependentReplay();
            Check.due("up to " + text, Check.carryOut(x, "mb/a;r;" + text + ";wb=1;r"), 2);
            Check.due("entries after " + text, x.count(0), 1);
            Check.due("rounds after " + text, x.count(5), 1);
            Check.due("the pad after " + text, x.count(8), 0);
        }
        DependentReplay y = Edges.chain(39);
        Check.due("up to one entry too many", Check.carryOut(y, "r;wb=1;wb=2;r"), 2);
        Check.due("entries", y.count(0), 40);
        Check.due("the last order returns an error", Check.carryOut(y, "r;l0;l0"), 2);
    }

    @Holds(at = "Promise 24", sentence = "This is a change (one, with all of them; also if none is carried out).")
    static void oneChange() {
        DependentReplay x = new DependentReplay();
        Check.due("none is carried out", Check.carryOut(x, "l0;mb/a"), 0);
        Check.due("changes", x.count(9), 1);
        Check.due("forty", Check.carryOut(x, "r;".repeat(39) + "r"), 40);
        Check.due("changes", x.count(9), 2);
        Check.due("rounds", x.count(5), 40);
        Check.due("undo", x.undo(), 1);
        Check.due("rounds", x.count(5), 0);
    }

    @Holds(at = "Promise 24", sentence = "Returns how many orders were carried out")
    static void fewestAndMostOrders() {
        Check.due("none", Check.carryOut(new DependentReplay(), "f0"), 0);
        Check.due("one", Check.carryOut(new DependentReplay(), "r"), 1);
        Check.due("each kind", Check.carryOut(new DependentReplay(), "mb/a;wb=1;vb/a;db;l0;f0;n3<0;r"), 8);
        Check.due("forty", Check.carryOut(new DependentReplay(), "r;".repeat(39) + "r"), 40);
    }

    @Holds(at = "Promise 24", sentence = "BAD_TEXT if the pad has a fault (then it stays)")
    static void faultyText() {
        DependentReplay x = new DependentReplay();
        Check.due("an empty pad", x.carryOut(), -3);
        Check.put(x, "mb/a;r;");
        Check.due("it ends too early", x.carryOut(), -3);
        Check.due("the pad stays", x.count(8), 7);
        Check.due("none is carried out", x.count(0), 0);
        Check.due("changes", x.count(9), 0);
        x.put('r');
        Check.due("mended", x.carryOut(), 3);
        Check.due("a fault behind an order that returns an error", Check.carryOut(x, "l9;x"), -3);
        DependentReplay y = Edges.fullPad();
        Check.due("a full pad", y.carryOut(), -3);
        Check.due("it stays", y.count(8), 80);
    }
}
