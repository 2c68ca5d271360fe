import java.util.ArrayDeque;
import java.util.ArrayList;
import java.util.HashMap;
import java.util.List;
import java.util.Map;
import java.util.TreeSet;
import java.util.regex.Matcher;
import java.util.regex.Pattern;

/**
 * The document's words once more, in another shape than the program: sets and
 * maps, copied for each question. ModelTest compares the two.
 */
final class Model {
    private static final Pattern TEXT;

    static {
        String file = "[a-p]";
        String number = "(?:0|[1-9][0-9]{0,2})";
        String order = "(?:[mv]" + file + "/" + file + "|w" + file + "=" + number + "|d" + file + "|[lf]" + number
            + "|n" + number + "<" + number + "|r)";
        TEXT = Pattern.compile(order + "(?:;" + order + ")*");
    }

    /** An entry as it was written; what it depends on grows by need(). */
    private record Entry(int kind, int file, int argument, TreeSet<Integer> needs) {
        boolean placesIn(int directory) {
            return (kind == 0 || kind == 2) && argument == directory;
        }
    }

    private static final class World {
        final List<Entry> entries = new ArrayList<>();
        final TreeSet<Integer> lost = new TreeSet<>();
        /** By entry: its round and its reason. */
        final Map<Integer, int[]> replayed = new HashMap<>();
        final List<Integer> widths = new ArrayList<>();
        /** By file: its directory and its value. */
        final Map<Integer, int[]> tree = new HashMap<>();

        World() {
            tree.put(0, new int[] {-6, 0});
        }

        World copy() {
            World other = new World();
            for (Entry entry : entries) {
                other.entries.add(new Entry(entry.kind, entry.file, entry.argument, new TreeSet<>(entry.needs)));
            }
            other.lost.addAll(lost);
            other.replayed.putAll(replayed);
            other.widths.addAll(widths);
            other.tree.clear();
            tree.forEach((file, place) -> other.tree.put(file, place.clone()));
            return other;
        }

        void beginAnew() {
            replayed.clear();
            widths.clear();
            tree.clear();
            tree.put(0, new int[] {-6, 0});
        }

        TreeSet<Integer> leansOn(int entry) {
            TreeSet<Integer> found = new TreeSet<>();
            ArrayDeque<Integer> open = new ArrayDeque<>(entries.get(entry).needs);
            while (!open.isEmpty()) {
                int next = open.pop();
                if (found.add(next)) {
                    open.addAll(entries.get(next).needs);
                }
            }
            return found;
        }

        TreeSet<Integer> orphans() {
            TreeSet<Integer> found = new TreeSet<>();
            for (int entry = 0; entry < entries.size(); entry++) {
                TreeSet<Integer> leans = leansOn(entry);
                leans.retainAll(lost);
                if (!lost.contains(entry) && !leans.isEmpty()) {
                    found.add(entry);
                }
            }
            return found;
        }

        TreeSet<Integer> ready() {
            TreeSet<Integer> found = new TreeSet<>();
            for (int entry = 0; entry < entries.size(); entry++) {
                if (!lost.contains(entry) && !replayed.containsKey(entry) && replayed.keySet().containsAll(entries.get(entry).needs)) {
                    found.add(entry);
                }
            }
            return found;
        }

        int round() {
            TreeSet<Integer> ready = ready();
            for (int entry : ready) {
                replayed.put(entry, new int[] {widths.size(), apply(entries.get(entry))});
            }
            widths.add(ready.size());
            return ready.size();
        }

        int replay() {
            int rounds = 0;
            while (!ready().isEmpty()) {
                round();
                rounds++;
            }
            return rounds;
        }

        int apply(Entry entry) {
            boolean there = tree.containsKey(entry.file);
            if ((entry.kind == 0) == there) {
                return entry.kind == 0 ? 1 : 2;
            }
            if (entry.kind == 0 || entry.kind == 2) {
                if (!tree.containsKey(entry.argument)) {
                    return 3;
                }
                if (entry.kind == 2 && path(entry.argument).contains(entry.file)) {
                    return 4;
                }
                tree.put(entry.file, new int[] {entry.argument, entry.kind == 0 ? 0 : tree.get(entry.file)[1]});
            } else if (entry.kind == 1) {
                tree.get(entry.file)[1] = entry.argument;
            } else {
                if (!filesIn(entry.file).isEmpty()) {
                    return 5;
                }
                tree.remove(entry.file);
            }
            return 0;
        }

        /** The file, its directory, and so on, up to the root. */
        List<Integer> path(int file) {
            List<Integer> path = new ArrayList<>();
            for (int at = file; at != -6; at = tree.get(at)[0]) {
                path.add(at);
            }
            return path;
        }

        TreeSet<Integer> filesIn(int directory) {
            TreeSet<Integer> found = new TreeSet<>();
            tree.forEach((file, place) -> {
                if (place[0] == directory) {
                    found.add(file);
                }
            });
            return found;
        }

        int below(int directory) {
            int number = 0;
            for (int file : filesIn(directory)) {
                number += 1 + below(file);
            }
            return number;
        }

        int refused() {
            return (int) replayed.values().stream().filter(how -> how[1] != 0).count();
        }
    }

    private World world = new World();
    private final ArrayDeque<World> history = new ArrayDeque<>();
    private final World[] slots = new World[2];
    private String pad = "";

    private static long mask(Iterable<Integer> set) {
        long mask = 0;
        for (int number : set) {
            mask |= 1L << number;
        }
        return mask;
    }

    private boolean isEntry(int entry) {
        return entry >= 0 && entry < world.entries.size();
    }

    /** Answers a call by its name; b is free where it takes fewer parameters. */
    long answer(String call, long a, int b) {
        int first = (int) a;
        switch (call) {
            case "put": return put(a);
            case "wipe": return wipe();
            case "fault": return fault();
            case "undo": return undo();
            case "save": return save(first);
            case "carryOut": return carryOut();
            default: break;
        }
        World before = world.copy();
        long answer = change(call, first, b);
        if (answer == Long.MIN_VALUE) {
            return question(call, first, b);
        }
        if (answer >= 0) {
            record(before);
        }
        return answer;
    }

    private void record(World before) {
        history.push(before);
        if (history.size() > 6) {
            history.removeLast();
        }
    }

    /** A change that is not recorded; the lowest long if there is none of the name. */
    private long change(String call, int a, int b) {
        switch (call) {
            case "make": return writeEntry(0, a, b);
            case "write": return writeEntry(1, a, b);
            case "move": return writeEntry(2, a, b);
            case "drop": return writeEntry(3, a, -6);
            case "need": return need(a, b);
            case "lose": return !isEntry(a) ? -1 : !world.lost.add(a) ? -5 : orphansAnew();
            case "find": return !isEntry(a) ? -1 : !world.lost.remove(a) ? -5 : orphansAnew();
            case "beginAnew": {
                int replayed = world.replayed.size();
                world.beginAnew();
                return replayed;
            }
            case "round": return world.round();
            case "replay": return world.replay();
            case "restore": {
                if (a < 0 || a > 1) {
                    return -2;
                }
                if (slots[a] == null) {
                    return -5;
                }
                world = slots[a].copy();
                return world.entries.size();
            }
            default: return Long.MIN_VALUE;
        }
    }

    private int orphansAnew() {
        world.beginAnew();
        return world.orphans().size();
    }

    private int writeEntry(int kind, int file, int argument) {
        boolean places = kind == 0 || kind == 2;
        if (file < 1 || file > 15 || places && (argument < 0 || argument > 15)) {
            return -1;
        }
        if (kind == 1 && (argument < 0 || argument > 999)) {
            return -2;
        }
        if (world.entries.size() == 40) {
            return -4;
        }
        TreeSet<Integer> needs = new TreeSet<>();
        int ofFile = -1;
        int ofDirectory = -1;
        int inFile = -1;
        for (int entry = 0; entry < world.entries.size(); entry++) {
            Entry earlier = world.entries.get(entry);
            ofFile = earlier.file == file ? entry : ofFile;
            ofDirectory = places && argument != 0 && earlier.file == argument ? entry : ofDirectory;
            inFile = kind == 3 && earlier.placesIn(file) ? entry : inFile;
        }
        needs.add(ofFile);
        needs.add(ofDirectory);
        needs.add(inFile);
        needs.remove(-1);
        world.entries.add(new Entry(kind, file, argument, needs));
        return world.entries.size() - 1;
    }

    private int need(int entry, int earlier) {
        if (!isEntry(entry) || !isEntry(earlier)) {
            return -1;
        }
        if (earlier >= entry) {
            return -5;
        }
        world.entries.get(entry).needs.add(earlier);
        world.beginAnew();
        return world.entries.get(entry).needs.size();
    }

    private long question(String call, int a, int b) {
        switch (call) {
            case "ofEntry": return isEntry(a) ? ofEntry(a, b) : -1;
            case "dependsOn": return isEntry(a) ? mask(world.entries.get(a).needs) : -1;
            case "ofFile": return a >= 0 && a <= 15 ? ofFile(a, b) : -1;
            case "count": return count(a);
            case "set": return set(a);
            case "depth": return isEntry(a) ? depth(a) : -1;
            case "wants": return isEntry(a) ? wants(a) : -1;
            case "worst": return a == 0 || a == 1 ? worst()[a] : -2;
            case "unlike": return unlike();
            default: throw new IllegalArgumentException(call);
        }
    }

    private int ofEntry(int number, int what) {
        Entry entry = world.entries.get(number);
        int[] how = world.replayed.getOrDefault(number, new int[] {-6, -6});
        int leaning = 0;
        for (int other = 0; other < world.entries.size(); other++) {
            leaning += world.leansOn(other).contains(number) ? 1 : 0;
        }
        int[] answers = {entry.kind, entry.file, entry.argument, world.lost.contains(number) ? 1 : 0,
            world.orphans().contains(number) ? 1 : 0, how[0], how[1], entry.needs.size(), leaning};
        return what >= 0 && what < answers.length ? answers[what] : -2;
    }

    private int ofFile(int file, int what) {
        if (what < 0 || what > 5) {
            return -2;
        }
        if (!world.tree.containsKey(file)) {
            return new int[] {0, -6, -6, 0, -6, 0}[what];
        }
        int[] place = world.tree.get(file);
        return new int[] {1, place[0], place[1], (int) mask(world.filesIn(file)), world.path(file).size() - 1, world.below(file)}[what];
    }

    private int count(int what) {
        int widest = world.widths.stream().mapToInt(width -> width).max().orElse(0);
        int[] answers = {world.entries.size(), world.lost.size(), world.orphans().size(), world.replayed.size(), world.refused(),
            world.widths.size(), world.tree.size(), widest, pad.length(), history.size()};
        return what >= 0 && what < answers.length ? answers[what] : -2;
    }

    private long set(int what) {
        TreeSet<Integer> refused = new TreeSet<>(world.replayed.keySet());
        refused.removeIf(entry -> world.replayed.get(entry)[1] == 0);
        List<Iterable<Integer>> answers = List.of(world.lost, world.orphans(), world.replayed.keySet(), refused, world.ready());
        return what >= 0 && what < answers.size() ? mask(answers.get(what)) : -2;
    }

    private int depth(int entry) {
        World trial = world.copy();
        trial.beginAnew();
        trial.replay();
        return trial.replayed.containsKey(entry) ? trial.replayed.get(entry)[0] : -6;
    }

    private long wants(int entry) {
        TreeSet<Integer> wanted = world.leansOn(entry);
        wanted.add(entry);
        wanted.retainAll(world.lost);
        return mask(wanted);
    }

    private int[] worst() {
        int[] worst = {-6, -6};
        for (int entry = world.entries.size() - 1; entry >= 0; entry--) {
            if (!world.lost.contains(entry)) {
                World trial = world.copy();
                trial.lost.add(entry);
                int orphans = trial.orphans().size();
                if (orphans >= worst[1]) {
                    worst = new int[] {entry, orphans};
                }
            }
        }
        return worst;
    }

    private int unlike() {
        World byNeeds = world.copy();
        byNeeds.beginAnew();
        byNeeds.replay();
        World byNumbers = world.copy();
        byNumbers.beginAnew();
        for (int entry = 0; entry < world.entries.size(); entry++) {
            if (!world.lost.contains(entry)) {
                byNumbers.apply(world.entries.get(entry));
            }
        }
        int unlike = 0;
        for (int file = 0; file <= 15; file++) {
            int[] one = byNeeds.tree.get(file);
            int[] other = byNumbers.tree.get(file);
            if (!java.util.Arrays.equals(one, other)) {
                unlike |= 1 << file;
            }
        }
        return unlike;
    }

    private int put(long characters) {
        String bytes = "";
        for (int shift = 56; shift >= 0; shift -= 8) {
            bytes += (char) (characters >>> shift & 255);
        }
        String text = bytes.replaceFirst("^\0+", "");
        if (!text.matches("[!-~]+")) {
            return -2;
        }
        if (pad.length() + text.length() > 80) {
            return -4;
        }
        pad += text;
        return pad.length();
    }

    private int wipe() {
        int length = pad.length();
        pad = "";
        return length;
    }

    private int fault() {
        Matcher whole = TEXT.matcher(pad);
        if (whole.matches()) {
            return -6;
        }
        for (int length = 1; length <= pad.length(); length++) {
            Matcher beginning = TEXT.matcher(pad.substring(0, length));
            if (!beginning.matches() && !beginning.hitEnd()) {
                return length - 1;
            }
        }
        return pad.length();
    }

    private int carryOut() {
        if (fault() != -6) {
            return -3;
        }
        World before = world.copy();
        int done = 0;
        for (String order : pad.split(";")) {
            if (carryOut(order) < 0) {
                break;
            }
            done++;
        }
        pad = "";
        record(before);
        return done;
    }

    private long carryOut(String order) {
        String[] parts = order.substring(1).split("[/=<]");
        int[] numbers = new int[2];
        for (int i = 0; i < parts.length; i++) {
            if (!parts[i].isEmpty()) {
                numbers[i] = Character.isDigit(parts[i].charAt(0)) ? Integer.parseInt(parts[i]) : parts[i].charAt(0) - 'a';
            }
        }
        String call = Map.of('m', "make", 'w', "write", 'v', "move", 'd', "drop", 'l', "lose", 'f', "find", 'n', "need", 'r', "round")
            .get(order.charAt(0));
        return change(call, numbers[0], numbers[1]);
    }

    private int undo() {
        if (history.isEmpty()) {
            return -5;
        }
        world = history.pop();
        return history.size();
    }

    private int save(int slot) {
        if (slot < 0 || slot > 1) {
            return -2;
        }
        slots[slot] = world.copy();
        return world.entries.size();
    }
}
