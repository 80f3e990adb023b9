import java.util.ArrayList;
import java.util.List;
import java.util.Map;
import java.util.Random;
import java.util.TreeMap;
import java.util.TreeSet;

/** Made-up runs of calls, answered by the class and by a second, plain telling of the document. */
public final class ModelTest {
    // An object answers as promised for 512 calls; the looks at its counts are among them.
    private static final int CALLS = 512;
    private static final int COUNTS = 14;
    private static final int RUNS = 4000;
    private static final String[] NAMES = {
        "begin", "write", "read", "commit", "abort", "flush", "crash", "key", "log", "relay", "cut",
        "deliver", "lose", "letter", "save", "ack", "flow", "whole", "prefix", "count"};
    // How often each call comes, by the kind of run: even, busy and lossy, hardly any help from flow.
    private static final int[][] WEIGHTS = {
        {5, 5, 5, 5, 5, 5, 5, 5, 5, 5, 5, 5, 5, 5, 5, 5, 5, 5, 5, 5},
        {30, 80, 5, 30, 3, 25, 4, 5, 5, 15, 4, 60, 12, 5, 10, 10, 2, 4, 3, 5},
        {40, 120, 2, 40, 1, 40, 1, 2, 2, 40, 2, 30, 2, 2, 3, 3, 0, 2, 2, 2}};

    private record Change(int place, int key, int value, int order, boolean last) { }

    private static final class State {
        final int[] values = new int[6];
        final int[] done = new int[6];
        final TreeSet<Integer> places = new TreeSet<>();

        State copy() {
            State other = new State();
            System.arraycopy(values, 0, other.values, 0, 6);
            System.arraycopy(done, 0, other.done, 0, 6);
            other.places.addAll(places);
            return other;
        }

        int leastMissing() {
            int place = 0;
            while (places.contains(place)) {
                place++;
            }
            return place;
        }
    }

    private static final class Model {
        final int[] values = new int[6];
        final int[] counts = new int[6];
        final Map<Integer, TreeMap<Integer, Integer>> open = new TreeMap<>();
        final List<Change> log = new ArrayList<>();
        final List<List<Change>> lanes = List.of(new ArrayList<>(), new ArrayList<>(), new ArrayList<>());
        final List<Change> held = new ArrayList<>();
        State memory = new State();
        State disk = new State();
        int flushed, position, mark, cut, sent, done, twice, lost, crashes;

        boolean lockedByChanges(int key) {
            return log.subList(flushed, log.size()).stream().anyMatch(c -> c.key() == key);
        }

        int begin() {
            for (int t = 0; t < 4; t++) {
                if (!open.containsKey(t)) {
                    open.put(t, new TreeMap<>());
                    return t;
                }
            }
            return -3;
        }

        int write(int t, int key, int v) {
            if (!open.containsKey(t) || key < 0 || key > 5) {
                return -1;
            }
            for (int other : open.keySet()) {
                if (other != t && open.get(other).containsKey(key)) {
                    return -2;
                }
            }
            if (lockedByChanges(key)) {
                return -2;
            }
            open.get(t).put(key, v);
            return 1;
        }

        int read(int t, int key) {
            if (!open.containsKey(t) || key < 0 || key > 5) {
                return 0;
            }
            return open.get(t).getOrDefault(key, values[key]);
        }

        int commit(int t) {
            if (!open.containsKey(t)) {
                return -1;
            }
            TreeMap<Integer, Integer> written = open.get(t);
            if (log.size() + written.size() > 400) {
                return -3;
            }
            open.remove(t);
            for (int key : written.keySet()) {
                int order = 1 + (int) log.stream().filter(c -> c.key() == key).count();
                log.add(new Change(log.size(), key, written.get(key), order, key == written.lastKey()));
            }
            return written.size();
        }

        int abort(int t) {
            return open.containsKey(t) ? open.remove(t).size() : -1;
        }

        int flush() {
            int n = log.size() - flushed;
            for (Change c : log.subList(flushed, log.size())) {
                values[c.key()] = c.value();
                counts[c.key()]++;
            }
            flushed = log.size();
            return n;
        }

        int crash(int house) {
            int gone = -1;
            if (house == 0) {
                gone = log.size() - flushed;
                open.clear();
                log.subList(flushed, log.size()).clear();
            } else if (house == 1) {
                gone = position - mark;
                position = mark;
            } else if (house == 2) {
                gone = memory.places.size() - disk.places.size();
                memory = disk.copy();
                held.clear();
            }
            if (gone >= 0) {
                crashes++;
            }
            return gone;
        }

        int lock(int key) {
            if (lockedByChanges(key)) {
                return 2;
            }
            return open.values().stream().anyMatch(w -> w.containsKey(key)) ? 1 : 0;
        }

        int key(int key, int what) {
            if (key < 0 || key > 5) {
                return 0;
            }
            return switch (what) {
                case 0 -> values[key];
                case 1 -> counts[key];
                case 2 -> lock(key);
                case 3 -> memory.values[key];
                case 4 -> memory.done[key];
                case 5 -> disk.values[key];
                case 6 -> disk.done[key];
                default -> 0;
            };
        }

        int log(int place, int what) {
            if (what < 0 || what > 4) {
                return -1;
            }
            if (place < cut || place >= log.size()) {
                return -9;
            }
            Change c = log.get(place);
            return switch (what) {
                case 0 -> c.key();
                case 1 -> c.value();
                case 2 -> c.order();
                case 3 -> place < flushed ? 1 : 0;
                default -> c.last() ? 1 : 0;
            };
        }

        int readOn(int n) {
            int read = 0;
            while (read < n && position < flushed && lanes.get(log.get(position).key() % 3).size() < 40) {
                lanes.get(log.get(position).key() % 3).add(log.get(position));
                position++;
                read++;
            }
            sent += read;
            return read;
        }

        int relay(int n) {
            return n < 1 || n > 20 ? -1 : readOn(n);
        }

        int cut() {
            int n = mark - cut;
            cut = mark;
            return n;
        }

        void apply(Change c) {
            memory.values[c.key()] = c.value();
            memory.done[c.key()]++;
            memory.places.add(c.place());
            done++;
        }

        int take(Change c) {
            int next = memory.done[c.key()] + 1;
            if (c.order() < next || held.contains(c)) {
                twice++;
                return 2;
            }
            if (c.order() > next) {
                if (held.size() == 8) {
                    lost++;
                    return 4;
                }
                held.add(c);
                return 3;
            }
            apply(c);
            boolean more = true;
            while (more) {
                more = false;
                for (Change h : List.copyOf(held)) {
                    if (h.key() == c.key() && h.order() == memory.done[c.key()] + 1) {
                        held.remove(h);
                        apply(h);
                        more = true;
                    }
                }
            }
            return 1;
        }

        boolean noLetter(int lane, int i) {
            return lane < 0 || lane > 2 || i < 0 || i >= lanes.get(lane).size();
        }

        int deliver(int lane, int i, boolean stays) {
            if (noLetter(lane, i)) {
                return -1;
            }
            return take(stays ? lanes.get(lane).get(i) : lanes.get(lane).remove(i));
        }

        int lose(int lane, int i) {
            if (noLetter(lane, i)) {
                return -1;
            }
            lost++;
            return lanes.get(lane).remove(i).place();
        }

        int letter(int lane, int i, int what) {
            if (lane < 0 || lane > 2 || what < 0 || what > 3) {
                return -1;
            }
            if (noLetter(lane, i)) {
                return -9;
            }
            Change c = lanes.get(lane).get(i);
            return switch (what) {
                case 0 -> c.place();
                case 1 -> c.key();
                case 2 -> c.order();
                default -> c.value();
            };
        }

        int save() {
            int n = memory.places.size() - disk.places.size();
            disk = memory.copy();
            return n;
        }

        int ack(boolean heard) {
            int place = disk.leastMissing();
            if (heard && place > mark) {
                mark = place;
                if (position < mark) {
                    position = mark;
                }
            }
            return place;
        }

        int flow(int n) {
            if (n < 1 || n > 10) {
                return -1;
            }
            int before = done;
            for (int round = 0; round < n; round++) {
                for (List<Change> lane : lanes) {
                    while (!lane.isEmpty()) {
                        take(lane.remove(0));
                    }
                }
                save();
                ack(true);
                readOn(Integer.MAX_VALUE);
            }
            return done - before;
        }

        int whole() {
            TreeSet<Integer> commit = new TreeSet<>();
            for (Change c : log) {
                commit.add(c.place());
                if (c.last()) {
                    long on = commit.stream().filter(disk.places::contains).count();
                    if (on != 0 && on != commit.size()) {
                        return 0;
                    }
                    commit.clear();
                }
            }
            return 1;
        }

        int count(int what) {
            return switch (what) {
                case 0 -> open.size();
                case 1 -> log.size();
                case 2 -> flushed;
                case 3 -> position;
                case 4 -> mark;
                case 5 -> cut;
                case 6 -> lanes.get(0).size() + lanes.get(1).size() + lanes.get(2).size();
                case 7 -> sent;
                case 8 -> done;
                case 9 -> twice;
                case 10 -> held.size();
                case 11 -> lost;
                case 12 -> crashes;
                case 13 -> disk.leastMissing();
                default -> -1;
            };
        }
    }

    private static final Random RANDOM = new Random(20261116);
    private static final int[] ODD = {-1, Integer.MIN_VALUE, Integer.MAX_VALUE, 40, 400};
    private static final int[] SEEN = new int[NAMES.length];
    private static int wrong = 0;

    /** Mostly a number of low .. high, now and then one just beside it or far away. */
    private static int number(int low, int high) {
        int dice = RANDOM.nextInt(40);
        if (dice == 0) {
            return ODD[RANDOM.nextInt(ODD.length)];
        }
        if (dice == 1) {
            return RANDOM.nextBoolean() ? low - 1 : high + 1;
        }
        return low + RANDOM.nextInt(high - low + 1);
    }

    private static int pick(int[] weights) {
        int sum = 0;
        for (int w : weights) {
            sum += w;
        }
        int dice = RANDOM.nextInt(sum);
        int call = 0;
        while (dice >= weights[call]) {
            dice -= weights[call];
            call++;
        }
        return call;
    }

    private static int[] arguments(int call, Model m) {
        int lane = number(0, 2);
        int letters = lane >= 0 && lane < 3 ? m.lanes.get(lane).size() : 1;
        int i = number(0, Math.max(0, letters - 1));
        int t = number(0, 3);
        return switch (NAMES[call]) {
            case "write" -> new int[] {t, number(0, 5), RANDOM.nextInt(4) == 0 ? RANDOM.nextInt() : number(0, 9)};
            case "read" -> new int[] {t, number(0, 5)};
            case "commit", "abort" -> new int[] {t};
            case "crash" -> new int[] {number(0, 2)};
            case "key" -> new int[] {number(0, 5), number(0, 6)};
            case "log" -> new int[] {number(0, m.log.size()), number(0, 4)};
            case "relay" -> new int[] {number(1, 20)};
            case "deliver" -> new int[] {lane, i, RANDOM.nextInt(2)};
            case "lose" -> new int[] {lane, i};
            case "letter" -> new int[] {lane, i, number(0, 3)};
            case "ack" -> new int[] {RANDOM.nextInt(2)};
            case "flow" -> new int[] {number(1, 10)};
            case "prefix" -> new int[] {number(0, 1)};
            case "count" -> new int[] {number(0, 13)};
            default -> new int[0];
        };
    }

    private static int ask(OutboxHouse x, int call, int[] a) {
        return switch (NAMES[call]) {
            case "begin" -> x.begin();
            case "write" -> x.write(a[0], a[1], a[2]);
            case "read" -> x.read(a[0], a[1]);
            case "commit" -> x.commit(a[0]);
            case "abort" -> x.abort(a[0]);
            case "flush" -> x.flush();
            case "crash" -> x.crash(a[0]);
            case "key" -> x.key(a[0], a[1]);
            case "log" -> x.log(a[0], a[1]);
            case "relay" -> x.relay(a[0]);
            case "cut" -> x.cut();
            case "deliver" -> x.deliver(a[0], a[1], a[2] == 1);
            case "lose" -> x.lose(a[0], a[1]);
            case "letter" -> x.letter(a[0], a[1], a[2]);
            case "save" -> x.save();
            case "ack" -> x.ack(a[0] == 1);
            case "flow" -> x.flow(a[0]);
            case "whole" -> x.whole();
            case "prefix" -> x.prefix(a[0]);
            default -> x.count(a[0]);
        };
    }

    private static int ask(Model m, int call, int[] a) {
        return switch (NAMES[call]) {
            case "begin" -> m.begin();
            case "write" -> m.write(a[0], a[1], a[2]);
            case "read" -> m.read(a[0], a[1]);
            case "commit" -> m.commit(a[0]);
            case "abort" -> m.abort(a[0]);
            case "flush" -> m.flush();
            case "crash" -> m.crash(a[0]);
            case "key" -> m.key(a[0], a[1]);
            case "log" -> m.log(a[0], a[1]);
            case "relay" -> m.relay(a[0]);
            case "cut" -> m.cut();
            case "deliver" -> m.deliver(a[0], a[1], a[2] == 1);
            case "lose" -> m.lose(a[0], a[1]);
            case "letter" -> m.letter(a[0], a[1], a[2]);
            case "save" -> m.save();
            case "ack" -> m.ack(a[0] == 1);
            case "flow" -> m.flow(a[0]);
            case "whole" -> m.whole();
            // Changes are done once and in order, so a right target always has its prefix.
            case "prefix" -> a[0] < 0 || a[0] > 1 ? -1 : 1;
            default -> m.count(a[0]);
        };
    }

    private static boolean sameCounts(OutboxHouse x, Model m) {
        for (int what = 0; what < COUNTS; what++) {
            if (x.count(what) != m.count(what)) {
                return false;
            }
        }
        return true;
    }

    /** Half of the runs look at a count behind each call, the others are longer; all end by all counts. */
    private static void run(int number) {
        OutboxHouse x = new OutboxHouse();
        Model m = new Model();
        int[] weights = WEIGHTS[number % WEIGHTS.length];
        boolean looks = number % 2 == 0;
        int steps = (CALLS - COUNTS) / (looks ? 2 : 1);
        for (int n = 0; n < steps; n++) {
            int call = pick(weights);
            int[] a = arguments(call, m);
            int want = ask(m, call, a);
            int got = ask(x, call, a);
            SEEN[call]++;
            if (got != want) {
                wrong++;
                System.out.println("run " + number + ", call " + n + ": " + NAMES[call]
                    + java.util.Arrays.toString(a) + " answered " + got + ", due is " + want);
                return;
            }
            int what = RANDOM.nextInt(COUNTS);
            if (looks && x.count(what) != m.count(what)) {
                wrong++;
                System.out.println("run " + number + ", call " + n + ": count(" + what + ") is off behind "
                    + NAMES[call] + java.util.Arrays.toString(a));
                return;
            }
        }
        if (!sameCounts(x, m)) {
            wrong++;
            System.out.println("run " + number + ": a count is off at its end");
        }
    }

    public static void main(String[] args) {
        for (int number = 0; number < RUNS && wrong < 10; number++) {
            run(number);
        }
        for (int call = 0; call < NAMES.length; call++) {
            if (wrong == 0 && SEEN[call] == 0) {
                wrong++;
                System.out.println(NAMES[call] + " never came");
            }
        }
        System.out.println(wrong == 0 ? RUNS + " runs are as the model's" : wrong + " runs are not as the model's");
        if (wrong != 0) {
            System.exit(1);
        }
    }
}
