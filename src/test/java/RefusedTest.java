import java.util.EnumMap;
import java.util.List;
import java.util.Map;

/** Each refused call, and each with nothing to do: its answer, and that nothing changes by it. */
public final class RefusedTest {
    private static final int BAD = -1, STATE = -2, FULL = -3, NONE = -9;
    private static final int LOW = Integer.MIN_VALUE, HIGH = Integer.MAX_VALUE;
    private static final boolean[] STAYS = {true, false};

    private interface Call {
        int on(House x);
    }

    private static final Map<Scene, Map<View, List<Integer>>> UNTOUCHED = new EnumMap<>(Scene.class);
    private static Scene scene = Scene.FRESH;

    private static Map<View, List<Integer>> viewsOf(Scene one) {
        Map<View, List<Integer>> views = new EnumMap<>(View.class);
        for (View view : View.values()) {
            views.put(view, view.of(one.make()));
        }
        return views;
    }

    private static House after(Call call) {
        House x = scene.make();
        call.on(x);
        return x;
    }

    private static void sameViews(Call call) {
        Map<View, List<Integer>> untouched = UNTOUCHED.computeIfAbsent(scene, RefusedTest::viewsOf);
        for (View view : View.values()) {
            List<Integer> seen = view.of(after(call));
            if (!seen.equals(untouched.get(view))) {
                Check.wrong(view + " changed from " + untouched.get(view) + " to " + seen);
            }
        }
    }

    private static void changesOnlyCount(String name, Call call, int want, int what, int more) {
        Check.test(scene + ", " + name, () -> {
            Check.due("it", call.on(scene.make()), want);
            sameViews(call);
            List<Integer> counts = View.counts(scene.make());
            if (more != 0) {
                counts.set(what, counts.get(what) + more);
            }
            List<Integer> seen = View.counts(after(call));
            if (!seen.equals(counts)) {
                Check.wrong("counts are " + seen + ", due are " + counts);
            }
        });
    }

    private static void changesNothing(String name, Call call, int want) {
        changesOnlyCount(name, call, want, 0, 0);
    }

    /** Just below and just above what is allowed, and the ends of int. */
    private static int[] beside(int low, int high) {
        return new int[] {low - 1, high + 1, LOW, HIGH};
    }

    private static void wrongTransactions() {
        for (int t : beside(0, 3)) {
            noTransaction(t);
        }
    }

    private static void noTransaction(int t) {
        for (int key = 0; key < 6; key++) {
            int k = key;
            changesNothing("write(" + t + ", " + k + ", 7)", x -> x.write(t, k, 7), BAD);
            changesNothing("read(" + t + ", " + k + ")", x -> x.read(t, k), 0);
        }
        changesNothing("commit(" + t + ")", x -> x.commit(t), BAD);
        changesNothing("abort(" + t + ")", x -> x.abort(t), BAD);
    }

    private static void wrongKeys() {
        for (int key : beside(0, 5)) {
            for (int transaction = 0; transaction < 4; transaction++) {
                int t = transaction;
                changesNothing("write(" + t + ", " + key + ", 7)", x -> x.write(t, key, 7), BAD);
                changesNothing("read(" + t + ", " + key + ")", x -> x.read(t, key), 0);
            }
            for (int one = 0; one < 7; one++) {
                int what = one;
                changesNothing("key(" + key + ", " + what + ")", x -> x.key(key, what), 0);
            }
        }
    }

    private static void wrongWhatOfKey() {
        for (int what : beside(0, 6)) {
            for (int one = -1; one <= 6; one++) {
                int key = one;
                changesNothing("key(" + key + ", " + what + ")", x -> x.key(key, what), 0);
            }
        }
    }

    private static void wrongHouses() {
        for (int house : beside(0, 2)) {
            changesNothing("crash(" + house + ")", x -> x.crash(house), BAD);
        }
    }

    private static void wrongWhatOfLog() {
        for (int what : beside(0, 4)) {
            for (int place : new int[] {LOW, -1, 0, 1, 7, 8, 399, 400, HIGH}) {
                changesNothing("log(" + place + ", " + what + ")", x -> x.log(place, what), BAD);
            }
        }
    }

    private static void noPlaces() {
        for (int place : beside(0, 399)) {
            noPlace(place);
        }
        noPlace(399);
    }

    private static void noPlace(int place) {
        for (int one = 0; one < 5; one++) {
            int what = one;
            changesNothing("log(" + place + ", " + what + ")", x -> x.log(place, what), NONE);
        }
    }

    private static void wrongTimes() {
        for (int n : beside(1, 20)) {
            changesNothing("relay(" + n + ")", x -> x.relay(n), BAD);
        }
        for (int n : beside(1, 10)) {
            changesNothing("flow(" + n + ")", x -> x.flow(n), BAD);
        }
    }

    private static void wrongLanes() {
        for (int lane : beside(0, 2)) {
            for (int i : new int[] {LOW, -1, 0, 1, 40, HIGH}) {
                notToDeliver(lane, i);
                for (int one = 0; one < 4; one++) {
                    int what = one;
                    changesNothing("letter(" + lane + ", " + i + ", " + what + ")", x -> x.letter(lane, i, what), BAD);
                }
            }
        }
    }

    private static void notToDeliver(int lane, int i) {
        for (boolean stays : STAYS) {
            changesNothing("deliver(" + lane + ", " + i + ", " + stays + ")", x -> x.deliver(lane, i, stays), BAD);
        }
        changesNothing("lose(" + lane + ", " + i + ")", x -> x.lose(lane, i), BAD);
    }

    private static void noLetter(int lane, int i) {
        notToDeliver(lane, i);
        for (int one = 0; one < 4; one++) {
            int what = one;
            changesNothing("letter(" + lane + ", " + i + ", " + what + ")", x -> x.letter(lane, i, what), NONE);
        }
    }

    private static void noLetters() {
        for (int lane = 0; lane < 3; lane++) {
            for (int i : beside(0, 39)) {
                noLetter(lane, i);
            }
        }
    }

    private static void wrongWhatOfLetter() {
        for (int what : beside(0, 3)) {
            for (int one = 0; one < 3; one++) {
                int lane = one;
                for (int i : new int[] {LOW, -1, 0, 40, HIGH}) {
                    changesNothing("letter(" + lane + ", " + i + ", " + what + ")", x -> x.letter(lane, i, what), BAD);
                }
            }
        }
    }

    private static void wrongWhich() {
        for (int which : beside(0, 1)) {
            changesNothing("prefix(" + which + ")", x -> x.prefix(which), BAD);
        }
    }

    private static void wrongWhatOfCount() {
        for (int what : beside(0, 13)) {
            changesNothing("count(" + what + ")", x -> x.count(what), BAD);
        }
    }

    private static void wrongNumbers() {
        wrongTransactions();
        wrongKeys();
        wrongWhatOfKey();
        wrongHouses();
        wrongWhatOfLog();
        noPlaces();
        wrongTimes();
        wrongLanes();
        noLetters();
        wrongWhatOfLetter();
        wrongWhich();
        wrongWhatOfCount();
    }

    /** Looking is no change, whatever is looked at. */
    private static void looks() {
        for (View view : List.of(View.KEYS, View.READS, View.LOG, View.LANE_0, View.LANE_1, View.LANE_2, View.JUDGED)) {
            Check.test(scene + ", looking at " + view, () -> {
                House x = scene.make();
                view.of(x);
                if (!View.counts(x).equals(View.counts(scene.make()))) {
                    Check.wrong("counts changed");
                }
            });
        }
        changesNothing("count(13), whole(), prefix(0), key(0, 3), read(0, 5)", x -> {
            x.count(13);
            x.whole();
            x.prefix(0);
            x.key(0, 3);
            x.read(0, 5);
            return 0;
        }, 0);
    }

    private static void fresh() {
        for (int t = 0; t < 4; t++) {
            noTransaction(t);
        }
        for (int lane = 0; lane < 3; lane++) {
            noLetter(lane, 0);
        }
        noPlace(0);
        changesNothing("flush()", House::flush, 0);
        changesNothing("relay(1)", x -> x.relay(1), 0);
        changesNothing("relay(20)", x -> x.relay(20), 0);
        changesNothing("cut()", House::cut, 0);
        changesNothing("save()", House::save, 0);
        changesNothing("ack(true)", x -> x.ack(true), 0);
        changesNothing("ack(false)", x -> x.ack(false), 0);
        changesNothing("flow(1)", x -> x.flow(1), 0);
        changesNothing("flow(10)", x -> x.flow(10), 0);
        for (int one = 0; one < 3; one++) {
            int house = one;
            changesOnlyCount("crash(" + house + ")", x -> x.crash(house), 0, 12, 1);
        }
    }

    private static void busy() {
        noTransaction(1);
        noTransaction(3);
        changesNothing("LOCKED by another: write(0, 3, 7)", x -> x.write(0, 3, 7), STATE);
        changesNothing("LOCKED by another: write(2, 5, 7)", x -> x.write(2, 5, 7), STATE);
        changesNothing("LOCKED by CHANGES: write(0, 4, 7)", x -> x.write(0, 4, 7), STATE);
        changesNothing("LOCKED by CHANGES: write(2, 4, 7)", x -> x.write(2, 4, 7), STATE);
        noLetter(0, 3);
        noLetter(1, 3);
        noLetter(2, 1);
        noPlace(0);
        noPlace(8);
        changesNothing("CUT already: cut()", House::cut, 0);
        changesNothing("not heard: ack(false)", x -> x.ack(false), 1);
        changesNothing("no more than the MARK: ack(true)", x -> x.ack(true), 1);
        changesOnlyCount("DONE already: deliver(1, 0, true)", x -> x.deliver(1, 0, true), OutboxHouse.TWICE, 9, 1);
        changesOnlyCount("HELD already: deliver(0, 2, true)", x -> x.deliver(0, 2, true), OutboxHouse.TWICE, 9, 1);
    }

    private static void full() {
        scene = Scene.FULL_TRANSACTIONS;
        changesNothing("begin()", House::begin, FULL);
        scene = Scene.FULL_LANE;
        noLetter(0, 40);
        noLetter(1, 0);
        changesNothing("relay(1)", x -> x.relay(1), 0);
        changesNothing("relay(20)", x -> x.relay(20), 0);
        scene = Scene.FULL_HELD;
        changesOnlyCount("HELD already: deliver(0, 1, true)", x -> x.deliver(0, 1, true), OutboxHouse.TWICE, 9, 1);
        changesOnlyCount("HELD already: deliver(0, 8, true)", x -> x.deliver(0, 8, true), OutboxHouse.TWICE, 9, 1);
        changesOnlyCount("one too many: deliver(0, 9, true)", x -> x.deliver(0, 9, true), OutboxHouse.LOST, 11, 1);
        changesNothing("HELD is not DONE: save()", House::save, 0);
    }

    public static void main(String[] args) {
        for (Scene one : Scene.values()) {
            scene = one;
            wrongNumbers();
            looks();
        }
        scene = Scene.FRESH;
        fresh();
        scene = Scene.BUSY;
        busy();
        full();
        Check.end();
    }
}
