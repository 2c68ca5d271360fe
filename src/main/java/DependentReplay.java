import java.util.Arrays;

/**
 * The replay of a log of files and directories by who depends on whom rather
 * than by the order of writing. The document's numbered promises say what each
 * public method answers.
 */
public final class DependentReplay {
    public static final int NO_SUCH = -1, BAD_VALUE = -2, BAD_TEXT = -3, TOO_MANY = -4, NOT_POSSIBLE = -5, NONE = -6;
    public static final int MAKE = 0, WRITE = 1, MOVE = 2, DROP = 3;

    private static final int FILES = 16;
    private static final int ROOT = 0;
    private static final int VALUES = 1000;
    private static final int ENTRIES = 40;
    private static final int PAD_LENGTH = 80;
    private static final int STATES_KEPT = 6;
    private static final int SLOTS = 2;

    private final State now = new State();
    private final History history = new History();
    private final Slot[] slots = new Slot[SLOTS];
    private final Reader reader = new Reader();
    /** Used again by each question about a replay that begins anew. */
    private final Replay trial = new Replay();
    private final Tree treeOfWriting = new Tree();

    public DependentReplay() {
        for (int slot = 0; slot < SLOTS; slot++) {
            slots[slot] = new Slot();
        }
    }

    // ---- writing

    public int make(int file, int directory) {
        history.prepare(now);
        return recorded(now.writeEntry(MAKE, file, directory));
    }

    public int write(int file, int value) {
        history.prepare(now);
        return recorded(now.writeEntry(WRITE, file, value));
    }

    public int move(int file, int directory) {
        history.prepare(now);
        return recorded(now.writeEntry(MOVE, file, directory));
    }

    public int drop(int file) {
        history.prepare(now);
        return recorded(now.writeEntry(DROP, file, NONE));
    }

    public int need(int entry, int earlier) {
        history.prepare(now);
        return recorded(now.tellNeed(entry, earlier));
    }

    // ---- losing, replaying

    public int lose(int entry) {
        history.prepare(now);
        return recorded(now.loseEntry(entry));
    }

    public int find(int entry) {
        history.prepare(now);
        return recorded(now.findEntry(entry));
    }

    public int beginAnew() {
        history.prepare(now);
        int replayed = Long.bitCount(now.replay.replayed);
        now.replay.clear();
        return recorded(replayed);
    }

    public int round() {
        history.prepare(now);
        return recorded(now.replay.makeRound(now.log));
    }

    public int replay() {
        history.prepare(now);
        return recorded(now.replay.makeRounds(now.log));
    }

    // ---- what there is

    public int ofEntry(int entry, int what) {
        Log log = now.log;
        if (!log.has(entry)) {
            return NO_SUCH;
        }
        switch (what) {
            case 0: return log.kinds[entry];
            case 1: return log.files[entry];
            case 2: return log.arguments[entry];
            case 3: return holds(log.lost, entry) ? 1 : 0;
            case 4: return holds(log.orphans(), entry) ? 1 : 0;
            case 5: return now.replay.roundOf[entry];
            case 6: return now.replay.reasonOf[entry];
            case 7: return Long.bitCount(log.needs[entry]);
            case 8: return log.leaningOn(entry);
            default: return BAD_VALUE;
        }
    }

    public long dependsOn(int entry) {
        return now.log.has(entry) ? now.log.needs[entry] : NO_SUCH;
    }

    public int ofFile(int file, int what) {
        Tree tree = now.replay.tree;
        if (!isFile(file)) {
            return NO_SUCH;
        }
        switch (what) {
            case 0: return tree.has(file) ? 1 : 0;
            case 1: return tree.directories[file];
            case 2: return tree.values[file];
            case 3: return tree.filesIn(file);
            case 4: return tree.directoriesAbove(file);
            case 5: return tree.filesBelow(file);
            default: return BAD_VALUE;
        }
    }

    public int count(int what) {
        switch (what) {
            case 0: return now.log.size;
            case 1: return Long.bitCount(now.log.lost);
            case 2: return Long.bitCount(now.log.orphans());
            case 3: return Long.bitCount(now.replay.replayed);
            case 4: return Long.bitCount(now.replay.refused);
            case 5: return now.replay.rounds;
            case 6: return now.replay.tree.size();
            case 7: return now.replay.widest;
            case 8: return reader.pad.length;
            case 9: return history.kept;
            default: return BAD_VALUE;
        }
    }

    public long set(int what) {
        switch (what) {
            case 0: return now.log.lost;
            case 1: return now.log.orphans();
            case 2: return now.replay.replayed;
            case 3: return now.replay.refused;
            case 4: return now.replay.ready(now.log);
            default: return BAD_VALUE;
        }
    }

    // ---- what if; nothing changes

    public int depth(int entry) {
        if (!now.log.has(entry)) {
            return NO_SUCH;
        }
        tryReplay();
        return trial.roundOf[entry];
    }

    public long wants(int entry) {
        if (!now.log.has(entry)) {
            return NO_SUCH;
        }
        return (now.log.leansOn[entry] | bit(entry)) & now.log.lost;
    }

    public int worst(int what) {
        if (what != 0 && what != 1) {
            return BAD_VALUE;
        }
        int worstEntry = NONE;
        int mostOrphans = NONE;
        for (int entry = 0; entry < now.log.size; entry++) {
            if (!holds(now.log.lost, entry)) {
                int orphans = Long.bitCount(now.log.orphansOf(now.log.lost | bit(entry)));
                if (orphans > mostOrphans) {
                    worstEntry = entry;
                    mostOrphans = orphans;
                }
            }
        }
        return what == 0 ? worstEntry : mostOrphans;
    }

    public int unlike() {
        tryReplay();
        Log log = now.log;
        treeOfWriting.clear();
        for (int entry = 0; entry < log.size; entry++) {
            if (!holds(log.lost, entry)) {
                treeOfWriting.apply(log.kinds[entry], log.files[entry], log.arguments[entry]);
            }
        }
        return trial.tree.otherwiseThan(treeOfWriting);
    }

    // ---- texts

    public int put(long characters) {
        return reader.pad.append(characters);
    }

    public int wipe() {
        return reader.pad.clear();
    }

    public int fault() {
        return reader.firstFault();
    }

    public int carryOut() {
        if (reader.firstFault() != NONE) {
            return BAD_TEXT;
        }
        history.prepare(now);
        int carriedOut = 0;
        reader.begin();
        while (carriedOut < PAD_LENGTH && reader.readOrder() && carryOrderOut() >= 0) {
            carriedOut++;
            reader.readSign(';');
        }
        reader.pad.clear();
        return recorded(carriedOut);
    }

    // ---- undo, saving

    public int undo() {
        return history.takeBack(now);
    }

    public int save(int slot) {
        if (!isSlot(slot)) {
            return BAD_VALUE;
        }
        slots[slot].state.copyFrom(now);
        slots[slot].isUsed = true;
        return now.log.size;
    }

    public int restore(int slot) {
        if (!isSlot(slot)) {
            return BAD_VALUE;
        }
        if (!slots[slot].isUsed) {
            return NOT_POSSIBLE;
        }
        history.prepare(now);
        now.copyFrom(slots[slot].state);
        return recorded(now.log.size);
    }

    // ---- what the methods above share

    /** Keeps the state that was prepared before a change, unless the change was refused. */
    private int recorded(int answer) {
        if (answer >= 0) {
            history.keepPrepared();
        }
        return answer;
    }

    private void tryReplay() {
        trial.clear();
        trial.makeRounds(now.log);
    }

    private int carryOrderOut() {
        switch (reader.letter) {
            case 'm': return now.writeEntry(MAKE, reader.first, reader.second);
            case 'w': return now.writeEntry(WRITE, reader.first, reader.second);
            case 'v': return now.writeEntry(MOVE, reader.first, reader.second);
            case 'd': return now.writeEntry(DROP, reader.first, NONE);
            case 'l': return now.loseEntry(reader.first);
            case 'f': return now.findEntry(reader.first);
            case 'n': return now.tellNeed(reader.first, reader.second);
            case 'r': return now.replay.makeRound(now.log);
            default: return BAD_TEXT;
        }
    }

    private static boolean isFile(int file) {
        return file >= 0 && file < FILES;
    }

    private static boolean isSlot(int slot) {
        return slot >= 0 && slot < SLOTS;
    }

    private static boolean hasDirectory(int kind) {
        return kind == MAKE || kind == MOVE;
    }

    private static long bit(int entry) {
        return 1L << entry;
    }

    private static boolean holds(long entries, int entry) {
        return (entries & bit(entry)) != 0;
    }

    /** The entries in the order of writing, what they depend on, and which of them are lost. */
    private static final class Log {
        int size;
        long lost;
        final int[] kinds = new int[ENTRIES];
        final int[] files = new int[ENTRIES];
        /** The directory or the value, NONE for a DROP. */
        final int[] arguments = new int[ENTRIES];
        final long[] needs = new long[ENTRIES];
        final long[] leansOn = new long[ENTRIES];

        void copyFrom(Log other) {
            size = other.size;
            lost = other.lost;
            System.arraycopy(other.kinds, 0, kinds, 0, ENTRIES);
            System.arraycopy(other.files, 0, files, 0, ENTRIES);
            System.arraycopy(other.arguments, 0, arguments, 0, ENTRIES);
            System.arraycopy(other.needs, 0, needs, 0, ENTRIES);
            System.arraycopy(other.leansOn, 0, leansOn, 0, ENTRIES);
        }

        boolean has(int entry) {
            return entry >= 0 && entry < size;
        }

        int append(int kind, int file, int argument) {
            if (size >= ENTRIES) {
                return TOO_MANY;
            }
            int entry = size;
            kinds[entry] = kind;
            files[entry] = file;
            arguments[entry] = argument;
            needs[entry] = firstNeeds(kind, file, argument);
            size++;
            lean(entry);
            return entry;
        }

        private long firstNeeds(int kind, int file, int argument) {
            long found = latestOfFile(file);
            if (hasDirectory(kind) && argument != ROOT) {
                found |= latestOfFile(argument);
            }
            if (kind == DROP) {
                found |= latestInDirectory(file);
            }
            return found;
        }

        /** As a set: one entry, or none. */
        private long latestOfFile(int file) {
            for (int entry = size - 1; entry >= 0; entry--) {
                if (files[entry] == file) {
                    return bit(entry);
                }
            }
            return 0;
        }

        /** As a set: one entry, or none. */
        private long latestInDirectory(int directory) {
            for (int entry = size - 1; entry >= 0; entry--) {
                if (hasDirectory(kinds[entry]) && arguments[entry] == directory) {
                    return bit(entry);
                }
            }
            return 0;
        }

        /** Those after the entry may lean on it, so theirs is found again, too. */
        void lean(int from) {
            for (int entry = from; entry < size; entry++) {
                long leans = needs[entry];
                for (int earlier = 0; earlier < entry; earlier++) {
                    if (holds(needs[entry], earlier)) {
                        leans |= leansOn[earlier];
                    }
                }
                leansOn[entry] = leans;
            }
        }

        int leaningOn(int entry) {
            int number = 0;
            for (int later = entry + 1; later < size; later++) {
                if (holds(leansOn[later], entry)) {
                    number++;
                }
            }
            return number;
        }

        long orphans() {
            return orphansOf(lost);
        }

        /** The orphans that there would be if just these were lost. */
        long orphansOf(long lostOnes) {
            long found = 0;
            for (int entry = 0; entry < size; entry++) {
                if ((leansOn[entry] & lostOnes) != 0) {
                    found |= bit(entry);
                }
            }
            return found & ~lostOnes;
        }
    }

    /** The files that are there; one that is not has the directory and the value NONE. */
    private static final class Tree {
        static final int DONE = 0, THERE_ALREADY = 1, NOT_THERE = 2, NO_DIRECTORY = 3, INTO_ITSELF = 4, NOT_EMPTY = 5;

        final int[] directories = new int[FILES];
        final int[] values = new int[FILES];

        Tree() {
            clear();
        }

        void clear() {
            Arrays.fill(directories, NONE);
            Arrays.fill(values, NONE);
            values[ROOT] = 0;
        }

        void copyFrom(Tree other) {
            System.arraycopy(other.directories, 0, directories, 0, FILES);
            System.arraycopy(other.values, 0, values, 0, FILES);
        }

        boolean has(int file) {
            return file >= 0 && file < FILES && values[file] != NONE;
        }

        int size() {
            int number = 0;
            for (int file = 0; file < FILES; file++) {
                if (has(file)) {
                    number++;
                }
            }
            return number;
        }

        /** Returns why it is refused, or DONE. */
        int apply(int kind, int file, int argument) {
            int reason = refusal(kind, file, argument);
            if (reason == DONE && isFile(file)) {
                carry(kind, file, argument);
            }
            return reason;
        }

        private int refusal(int kind, int file, int argument) {
            if (kind == MAKE && has(file)) {
                return THERE_ALREADY;
            }
            if (kind != MAKE && !has(file)) {
                return NOT_THERE;
            }
            if (hasDirectory(kind) && !has(argument)) {
                return NO_DIRECTORY;
            }
            if (kind == MOVE && isOrLiesIn(argument, file)) {
                return INTO_ITSELF;
            }
            if (kind == DROP && filesIn(file) != 0) {
                return NOT_EMPTY;
            }
            return DONE;
        }

        private void carry(int kind, int file, int argument) {
            if (hasDirectory(kind)) {
                directories[file] = argument;
            }
            if (kind == MAKE) {
                values[file] = 0;
            }
            if (kind == WRITE) {
                values[file] = argument;
            }
            if (kind == DROP) {
                directories[file] = NONE;
                values[file] = NONE;
            }
        }

        private boolean isOrLiesIn(int file, int directory) {
            int above = file;
            for (int level = 0; level < FILES && isFile(above); level++) {
                if (above == directory) {
                    return true;
                }
                above = directories[above];
            }
            return false;
        }

        int filesIn(int directory) {
            int found = 0;
            for (int file = 0; file < FILES; file++) {
                if (directories[file] == directory) {
                    found |= 1 << file;
                }
            }
            return found;
        }

        int directoriesAbove(int file) {
            if (!has(file)) {
                return NONE;
            }
            int levels = 0;
            int above = directories[file];
            while (levels < FILES && isFile(above)) {
                levels++;
                above = directories[above];
            }
            return levels;
        }

        int filesBelow(int directory) {
            int number = 0;
            for (int file = 0; file < FILES; file++) {
                if (file != directory && isOrLiesIn(file, directory)) {
                    number++;
                }
            }
            return number;
        }

        int otherwiseThan(Tree other) {
            int found = 0;
            for (int file = 0; file < FILES; file++) {
                if (directories[file] != other.directories[file] || values[file] != other.values[file]) {
                    found |= 1 << file;
                }
            }
            return found;
        }
    }

    /** How far a replay has come, and the tree that came of it. */
    private static final class Replay {
        long replayed;
        long refused;
        int rounds;
        int widest;
        final int[] roundOf = new int[ENTRIES];
        final int[] reasonOf = new int[ENTRIES];
        final Tree tree = new Tree();

        Replay() {
            clear();
        }

        void clear() {
            replayed = 0;
            refused = 0;
            rounds = 0;
            widest = 0;
            Arrays.fill(roundOf, NONE);
            Arrays.fill(reasonOf, NONE);
            tree.clear();
        }

        void copyFrom(Replay other) {
            replayed = other.replayed;
            refused = other.refused;
            rounds = other.rounds;
            widest = other.widest;
            System.arraycopy(other.roundOf, 0, roundOf, 0, ENTRIES);
            System.arraycopy(other.reasonOf, 0, reasonOf, 0, ENTRIES);
            tree.copyFrom(other.tree);
        }

        long ready(Log log) {
            long passedOver = log.lost | replayed;
            long found = 0;
            for (int entry = 0; entry < log.size; entry++) {
                if (!holds(passedOver, entry) && (log.needs[entry] & ~replayed) == 0) {
                    found |= bit(entry);
                }
            }
            return found;
        }

        int makeRound(Log log) {
            return replayReady(log, ready(log));
        }

        /** Each round replays one entry at least, so there are at most as many as entries. */
        int makeRounds(Log log) {
            int made = 0;
            long ready = ready(log);
            while (made < ENTRIES && ready != 0) {
                replayReady(log, ready);
                made++;
                ready = ready(log);
            }
            return made;
        }

        private int replayReady(Log log, long ready) {
            for (int entry = 0; entry < log.size; entry++) {
                if (holds(ready, entry)) {
                    reasonOf[entry] = tree.apply(log.kinds[entry], log.files[entry], log.arguments[entry]);
                    roundOf[entry] = rounds;
                    refused |= reasonOf[entry] == Tree.DONE ? 0 : bit(entry);
                }
            }
            replayed |= ready;
            int width = Long.bitCount(ready);
            widest = Math.max(widest, width);
            rounds++;
            return width;
        }
    }

    /** All that undo() and restore() bring back. Its changes return an error, and change nothing, or a number from 0 on. */
    private static final class State {
        final Log log = new Log();
        final Replay replay = new Replay();

        void copyFrom(State other) {
            log.copyFrom(other.log);
            replay.copyFrom(other.replay);
        }

        int writeEntry(int kind, int file, int argument) {
            if (!isFile(file) || file == ROOT) {
                return NO_SUCH;
            }
            if (hasDirectory(kind) && !isFile(argument)) {
                return NO_SUCH;
            }
            if (kind == WRITE && (argument < 0 || argument >= VALUES)) {
                return BAD_VALUE;
            }
            return log.append(kind, file, argument);
        }

        int tellNeed(int entry, int earlier) {
            if (!log.has(entry) || !log.has(earlier)) {
                return NO_SUCH;
            }
            if (earlier >= entry) {
                return NOT_POSSIBLE;
            }
            log.needs[entry] |= bit(earlier);
            log.lean(entry);
            replay.clear();
            return Long.bitCount(log.needs[entry]);
        }

        int loseEntry(int entry) {
            return turnLost(entry, false);
        }

        int findEntry(int entry) {
            return turnLost(entry, true);
        }

        private int turnLost(int entry, boolean wasLost) {
            if (!log.has(entry)) {
                return NO_SUCH;
            }
            if (holds(log.lost, entry) != wasLost) {
                return NOT_POSSIBLE;
            }
            log.lost ^= bit(entry);
            replay.clear();
            return Long.bitCount(log.orphans());
        }
    }

    /** The states before the latest changes, in a ring with one place more than are kept. */
    private static final class History {
        private static final int PLACES = STATES_KEPT + 1;

        private final State[] states = new State[PLACES];
        /** The place of the next one: what stands there is not kept yet, or not any more. */
        private int next;
        int kept;

        History() {
            for (int place = 0; place < PLACES; place++) {
                states[place] = new State();
            }
        }

        void prepare(State now) {
            states[next].copyFrom(now);
        }

        void keepPrepared() {
            next = next == PLACES - 1 ? 0 : next + 1;
            kept = Math.min(kept + 1, STATES_KEPT);
        }

        int takeBack(State now) {
            if (kept == 0) {
                return NOT_POSSIBLE;
            }
            next = next == 0 ? PLACES - 1 : next - 1;
            kept--;
            now.copyFrom(states[next]);
            return kept;
        }
    }

    private static final class Slot {
        final State state = new State();
        boolean isUsed;
    }

    private static final class Pad {
        private static final int LOWEST_CODE = 33, HIGHEST_CODE = 126, CODE_BITS = 8, CODE_MASK = 255;
        private static final int CODES_IN_LONG = 8;
        /** No character has this code. */
        static final int END = 0;

        private final int[] codes = new int[PAD_LENGTH];
        int length;

        int codeAt(int index) {
            return index >= 0 && index < length ? codes[index] : END;
        }

        int clear() {
            int before = length;
            length = 0;
            return before;
        }

        int append(long characters) {
            int number = numberOf(characters);
            if (number == 0) {
                return BAD_VALUE;
            }
            if (length + number > PAD_LENGTH) {
                return TOO_MANY;
            }
            for (int left = number - 1; left >= 0; left--) {
                codes[length] = (int) (characters >>> (left * CODE_BITS)) & CODE_MASK;
                length++;
            }
            return length;
        }

        /** How many characters are given, 0 if something is wrong with them. */
        private static int numberOf(long characters) {
            int number = 0;
            long rest = characters;
            while (number < CODES_IN_LONG && rest != 0) {
                int code = (int) (rest & CODE_MASK);
                if (code < LOWEST_CODE || code > HIGHEST_CODE) {
                    return 0;
                }
                rest >>>= CODE_BITS;
                number++;
            }
            return number;
        }
    }

    /**
     * Reads the pad from left to right, an order at a time. What cannot stand at
     * its place is not passed, so that the place is the fault: the end of the
     * text, too, as no order has a character that is Pad.END.
     */
    private static final class Reader {
        private static final int NUMBER_DIGITS = 3;

        final Pad pad = new Pad();
        private int at;
        int letter;
        int first;
        int second;

        void begin() {
            at = 0;
        }

        int firstFault() {
            begin();
            boolean goesOn = true;
            for (int orders = 0; orders < PAD_LENGTH && goesOn; orders++) {
                if (!readOrder()) {
                    return at;
                }
                goesOn = readSign(';');
            }
            return at == pad.length ? NONE : at;
        }

        boolean readOrder() {
            letter = pad.codeAt(at);
            switch (letter) {
                case 'm':
                case 'v': return readSign(letter) && readFirstFile() && readSign('/') && readSecondFile();
                case 'w': return readSign(letter) && readFirstFile() && readSign('=') && readSecondNumber();
                case 'd': return readSign(letter) && readFirstFile();
                case 'l':
                case 'f': return readSign(letter) && readFirstNumber();
                case 'n': return readSign(letter) && readFirstNumber() && readSign('<') && readSecondNumber();
                case 'r': return readSign(letter);
                default: return false;
            }
        }

        boolean readSign(int sign) {
            if (pad.codeAt(at) != sign) {
                return false;
            }
            at++;
            return true;
        }

        private boolean readFirstFile() {
            first = readFile();
            return first != NONE;
        }

        private boolean readSecondFile() {
            second = readFile();
            return second != NONE;
        }

        private boolean readFirstNumber() {
            first = readNumber();
            return first != NONE;
        }

        private boolean readSecondNumber() {
            second = readNumber();
            return second != NONE;
        }

        private int readFile() {
            int file = pad.codeAt(at) - 'a';
            if (!isFile(file)) {
                return NONE;
            }
            at++;
            return file;
        }

        /** A digit too many is left where it stands: nothing that may follow a number is a digit. */
        private int readNumber() {
            if (readSign('0')) {
                return 0;
            }
            int number = NONE;
            for (int digits = 0; digits < NUMBER_DIGITS && isDigit(pad.codeAt(at)); digits++) {
                number = Math.max(number, 0) * 10 + pad.codeAt(at) - '0';
                at++;
            }
            return number;
        }

        private static boolean isDigit(int code) {
            return code >= '0' && code <= '9';
        }
    }
}
