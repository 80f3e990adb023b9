/** Each promise of the document: ordinary inputs, the edges that it names, wrong inputs. */
public final class PromisesTest {
    private static final int BAD = -1, STATE = -2, FULL = -3, NONE = -9;
    private static final int DONE = 1, TWICE = 2, HELD = 3, LOST = 4;
    private static final int LOW = Integer.MIN_VALUE, HIGH = Integer.MAX_VALUE;

    private static int promise = 0;
    private static int wrong = 0;

    private static void due(String call, int got, int want) {
        if (got != want) {
            wrong++;
            System.out.println("promise " + promise + ": " + call + " answered " + got + ", due is " + want);
        }
    }

    private static void dueCounts(OutboxHouse x, int... want) {
        for (int what = 0; what < want.length; what++) {
            due("count(" + what + ")", x.count(what), want[what]);
        }
    }

    /** One commit that writes base + key to each of the keys. */
    private static void commitKeys(OutboxHouse x, int base, int... keys) {
        int t = x.begin();
        for (int key : keys) {
            due("write(" + t + ", " + key + ", ..)", x.write(t, key, base + key), 1);
        }
        due("commit(" + t + ")", x.commit(t), keys.length);
    }

    private static void commitFlushed(OutboxHouse x, int base, int... keys) {
        commitKeys(x, base, keys);
        due("flush()", x.flush(), keys.length);
    }

    private static OutboxHouse relayed(int commits, int... keys) {
        OutboxHouse x = new OutboxHouse();
        for (int n = 1; n <= commits; n++) {
            commitFlushed(x, 10 * n, keys);
        }
        for (int left = commits * keys.length; left > 0; left -= 20) {
            due("relay(20)", x.relay(20), Math.min(left, 20));
        }
        return x;
    }

    private static void newObject() {
        OutboxHouse x = new OutboxHouse();
        dueCounts(x, 0, 0, 0, 0, 0, 0, 0, 0, 0, 0, 0, 0, 0, 0);
        for (int key = 0; key < 6; key++) {
            for (int what = 0; what < 7; what++) {
                due("key(" + key + ", " + what + ")", x.key(key, what), 0);
            }
        }
        for (int lane = 0; lane < 3; lane++) {
            due("letter", x.letter(lane, 0, 0), NONE);
        }
        due("log(0, 0)", x.log(0, 0), NONE);
        due("flush()", x.flush(), 0);
        due("relay(20)", x.relay(20), 0);
        due("cut()", x.cut(), 0);
        due("save()", x.save(), 0);
        due("ack(true)", x.ack(true), 0);
        due("flow(10)", x.flow(10), 0);
        due("whole()", x.whole(), 1);
        due("prefix(0)", x.prefix(0), 1);
        due("prefix(1)", x.prefix(1), 1);
        due("crash(0)", x.crash(0), 0);
        due("crash(1)", x.crash(1), 0);
        due("crash(2)", x.crash(2), 0);
    }

    private static void begin() {
        OutboxHouse x = new OutboxHouse();
        for (int t = 0; t < 4; t++) {
            due("begin()", x.begin(), t);
        }
        due("begin()", x.begin(), FULL);
        due("count(0)", x.count(0), 4);
        due("abort(2)", x.abort(2), 0);
        due("commit(1)", x.commit(1), 0);
        due("begin()", x.begin(), 1);
        due("begin()", x.begin(), 2);
        due("begin()", x.begin(), FULL);
        x.crash(0);
        due("begin()", x.begin(), 0);
    }

    private static void write() {
        OutboxHouse x = new OutboxHouse();
        due("write, not open", x.write(0, 0, 1), BAD);
        x.begin();
        x.begin();
        for (int t : new int[] {-1, 2, 4, LOW, HIGH}) {
            due("write(" + t + ", 0, 1)", x.write(t, 0, 1), BAD);
        }
        for (int key : new int[] {-1, 6, LOW, HIGH}) {
            due("write(0, " + key + ", 1)", x.write(0, key, 1), BAD);
        }
        due("write(0, 5, LOW)", x.write(0, 5, LOW), 1);
        due("write(0, 5, HIGH)", x.write(0, 5, HIGH), 1);
        due("write(1, 5, 1)", x.write(1, 5, 1), STATE);
        due("BAD before STATE", x.write(2, 5, 1), BAD);
        due("key(5, 0)", x.key(5, 0), 0);
        due("read(1, 5)", x.read(1, 5), 0);
        due("commit(0)", x.commit(0), 1);
        due("write behind unflushed", x.write(1, 5, 1), STATE);
        due("begin()", x.begin(), 0);
        due("the slot of the commit", x.write(0, 5, 1), STATE);
        due("lockedKeys of it", x.abort(0), 0);
        x.flush();
        due("key(5, 0)", x.key(5, 0), HIGH);
        due("write after flush", x.write(1, 5, 1), 1);
        x.abort(1);
        due("key(5, 2)", x.key(5, 2), 0);
    }

    private static void read() {
        OutboxHouse x = new OutboxHouse();
        commitFlushed(x, 100, 3);
        due("read, not open", x.read(0, 3), 0);
        x.begin();
        x.begin();
        due("read(0, 3)", x.read(0, 3), 103);
        x.write(0, 3, 7);
        x.write(0, 3, 8);
        due("what it wrote", x.read(0, 3), 8);
        due("another one sees", x.read(1, 3), 103);
        for (int bad : new int[] {-1, 4, LOW, HIGH}) {
            due("read(" + bad + ", 3)", x.read(bad, 3), 0);
        }
        for (int bad : new int[] {-1, 6, LOW, HIGH}) {
            due("read(0, " + bad + ")", x.read(0, bad), 0);
        }
        x.commit(0);
        due("unflushed does not count", x.read(1, 3), 103);
        x.flush();
        due("flushed does", x.read(1, 3), 8);
        x.abort(1);
        x.begin();
        due("the slot anew", x.read(0, 3), 8);
    }

    private static void commit() {
        OutboxHouse x = new OutboxHouse();
        for (int bad : new int[] {-1, 0, 4, LOW, HIGH}) {
            due("commit(" + bad + ")", x.commit(bad), BAD);
        }
        x.begin();
        x.write(0, 5, 1);
        x.write(0, 0, 2);
        x.write(0, 3, 3);
        x.write(0, 5, 4);
        due("commit(0)", x.commit(0), 3);
        due("commit(0) again", x.commit(0), BAD);
        int[][] want = {{0, 2, 1, 0, 0}, {3, 3, 1, 0, 0}, {5, 4, 1, 0, 1}};
        for (int place = 0; place < 3; place++) {
            for (int what = 0; what < 5; what++) {
                due("log(" + place + ", " + what + ")", x.log(place, what), want[place][what]);
            }
        }
        commitKeys(x, 0, 1);
        x.begin();
        due("an empty one", x.commit(0), 0);
        due("log(2, 4)", x.log(2, 4), 1);
        due("log(3, 4)", x.log(3, 4), 1);
        dueCounts(x, 0, 4, 0);
        x.flush();
        commitKeys(x, 0, 5);
        due("ORDER", x.log(4, 2), 2);
    }

    private static void abort() {
        OutboxHouse x = new OutboxHouse();
        for (int bad : new int[] {-1, 0, 4, LOW, HIGH}) {
            due("abort(" + bad + ")", x.abort(bad), BAD);
        }
        x.begin();
        x.begin();
        x.write(0, 1, 5);
        x.write(0, 1, 6);
        x.write(0, 2, 7);
        x.write(1, 4, 7);
        due("abort(0)", x.abort(0), 2);
        due("abort(0) again", x.abort(0), BAD);
        due("key(1, 2)", x.key(1, 2), 0);
        due("key(4, 2)", x.key(4, 2), 1);
        due("write(1, 1, 1)", x.write(1, 1, 1), 1);
        due("flush()", x.flush(), 0);
        due("key(2, 0)", x.key(2, 0), 0);
        dueCounts(x, 1, 0, 0);
    }

    private static void flush() {
        OutboxHouse x = new OutboxHouse();
        commitKeys(x, 10, 0, 2);
        commitKeys(x, 20, 1);
        x.begin();
        x.write(0, 5, 9);
        due("key(0, 1)", x.key(0, 1), 0);
        due("flush()", x.flush(), 3);
        due("flush() again", x.flush(), 0);
        int[][] want = {{10, 1, 0}, {21, 1, 0}, {12, 1, 0}, {0, 0, 0}, {0, 0, 0}, {0, 0, 1}};
        for (int key = 0; key < 6; key++) {
            for (int what = 0; what < 3; what++) {
                due("key(" + key + ", " + what + ")", x.key(key, what), want[key][what]);
            }
        }
        commitKeys(x, 30, 2);
        due("flush()", x.flush(), 1);
        due("key(2, 0)", x.key(2, 0), 32);
        due("key(2, 1)", x.key(2, 1), 2);
    }

    private static void crash() {
        OutboxHouse x = new OutboxHouse();
        for (int bad : new int[] {-1, 3, LOW, HIGH}) {
            due("crash(" + bad + ")", x.crash(bad), BAD);
        }
        due("count(12)", x.count(12), 0);
        commitFlushed(x, 10, 0, 1, 2);
        commitKeys(x, 20, 0, 1);
        x.begin();
        x.write(0, 3, 5);
        due("crash(0)", x.crash(0), 2);
        dueCounts(x, 0, 3, 3);
        due("log(3, 0)", x.log(3, 0), NONE);
        for (int key = 0; key < 6; key++) {
            due("key(" + key + ", 2)", x.key(key, 2), 0);
            due("key(" + key + ", 1)", x.key(key, 1), key < 3 ? 1 : 0);
        }
        due("key(1, 0)", x.key(1, 0), 11);
        commitFlushed(x, 30, 1);
        due("the PLACE is told again", x.log(3, 1), 31);
        due("and the ORDER", x.log(3, 2), 2);

        due("relay(20)", x.relay(20), 4);
        due("deliver(0, 0, false)", x.deliver(0, 0, false), DONE);
        x.save();
        x.ack(true);
        due("crash(1)", x.crash(1), 3);
        due("crash(1) again", x.crash(1), 0);
        dueCounts(x, 0, 4, 4, 1, 1);
        due("letters are not its own", x.count(6), 3);

        due("deliver(1, 1, true)", x.deliver(1, 1, true), HELD);
        due("deliver(2, 0, false)", x.deliver(2, 0, false), DONE);
        due("crash(2)", x.crash(2), 1);
        due("nothing is HELD", x.count(10), 0);
        due("key(2, 3)", x.key(2, 3), 0);
        due("key(2, 4)", x.key(2, 4), 0);
        due("key(0, 3)", x.key(0, 3), 10);
        due("key(0, 4)", x.key(0, 4), 1);
        due("deliver(1, 0, true)", x.deliver(1, 0, true), DONE);
        due("the HELD one is gone", x.key(1, 4), 1);
        due("deliver(1, 0, true)", x.deliver(1, 0, true), TWICE);
        due("crash(2)", x.crash(2), 1);
        due("TWICE stays counted", x.count(9), 1);
        due("DONE ever stays counted", x.count(8), 3);
        due("count(12)", x.count(12), 5);
    }

    private static void key() {
        OutboxHouse x = new OutboxHouse();
        commitFlushed(x, 10, 4);
        x.relay(1);
        x.deliver(1, 0, false);
        x.save();
        commitFlushed(x, 20, 4);
        x.relay(1);
        x.deliver(1, 0, false);
        commitFlushed(x, 30, 4);
        int[] want = {34, 3, 0, 24, 2, 14, 1};
        for (int what = 0; what < 7; what++) {
            due("key(4, " + what + ")", x.key(4, what), want[what]);
        }
        for (int bad : new int[] {-1, 7, LOW, HIGH}) {
            due("key(4, " + bad + ")", x.key(4, bad), 0);
        }
        for (int bad : new int[] {-1, 6, LOW, HIGH}) {
            for (int what = 0; what < 7; what++) {
                due("key(" + bad + ", " + what + ")", x.key(bad, what), 0);
            }
        }
        x.begin();
        x.write(0, 4, 1);
        due("by a TRANSACTION", x.key(4, 2), 1);
        x.commit(0);
        due("by CHANGES", x.key(4, 2), 2);
        x.flush();
        due("not LOCKED", x.key(4, 2), 0);
    }

    private static void log() {
        OutboxHouse x = new OutboxHouse();
        commitFlushed(x, 10, 1, 5);
        commitKeys(x, NONE - 1, 1);
        int[][] want = {{1, 11, 1, 1, 0}, {5, 15, 1, 1, 1}, {1, NONE, 2, 0, 1}};
        for (int place = 0; place < 3; place++) {
            for (int what = 0; what < 5; what++) {
                due("log(" + place + ", " + what + ")", x.log(place, what), want[place][what]);
            }
        }
        for (int none : new int[] {-1, 3, 399, 400, LOW, HIGH}) {
            due("log(" + none + ", 0)", x.log(none, 0), NONE);
            due("log(" + none + ", 5)", x.log(none, 5), BAD);
        }
        for (int bad : new int[] {-1, 5, LOW, HIGH}) {
            due("log(0, " + bad + ")", x.log(0, bad), BAD);
        }
        x.flow(2);
        x.cut();
        due("CUT", x.log(0, 0), NONE);
        due("CUT", x.log(1, 3), NONE);
        due("not CUT", x.log(2, 0), 1);
    }

    private static void relay() {
        OutboxHouse x = new OutboxHouse();
        commitFlushed(x, 10, 0, 1, 2, 3, 4, 5);
        commitKeys(x, 20, 0);
        for (int bad : new int[] {-1, 0, 21, LOW, HIGH}) {
            due("relay(" + bad + ")", x.relay(bad), BAD);
        }
        due("relay(1)", x.relay(1), 1);
        due("relay(2)", x.relay(2), 2);
        due("unflushed are not READ", x.relay(20), 3);
        due("relay(1)", x.relay(1), 0);
        for (int key = 0; key < 6; key++) {
            due("its LANE", x.letter(key % 3, key / 3, 1), key);
        }
        due("count(3)", x.count(3), 6);
        due("count(7)", x.count(7), 6);
        x.flush();
        due("relay(20)", x.relay(20), 1);
        relayIntoFullLane();
    }

    private static void relayIntoFullLane() {
        OutboxHouse x = new OutboxHouse();
        for (int n = 0; n < 21; n++) {
            commitFlushed(x, n, 0, 3);
        }
        commitFlushed(x, 0, 1);
        due("relay(20)", x.relay(20), 20);
        due("relay(20)", x.relay(20), 20);
        due("a full LANE stops it", x.relay(20), 0);
        due("count(3)", x.count(3), 40);
        due("count(6)", x.count(6), 40);
        due("lose(0, 39)", x.lose(0, 39), 39);
        due("room for one", x.relay(20), 1);
        due("letter(0, 39, 0)", x.letter(0, 39, 0), 40);
        due("letter(1, 0, 0)", x.letter(1, 0, 0), NONE);
        due("lose(0, 0)", x.lose(0, 0), 0);
        due("the other LANE, too", x.relay(20), 2);
        due("letter(1, 0, 0)", x.letter(1, 0, 0), 42);
    }

    private static void cut() {
        OutboxHouse x = relayed(1, 0, 1, 2);
        due("cut()", x.cut(), 0);
        x.deliver(0, 0, false);
        x.deliver(1, 0, false);
        x.save();
        x.ack(false);
        due("not heard", x.cut(), 0);
        x.ack(true);
        due("cut()", x.cut(), 2);
        due("cut() again", x.cut(), 0);
        due("count(5)", x.count(5), 2);
        due("log(1, 0)", x.log(1, 0), NONE);
        due("log(2, 0)", x.log(2, 0), 2);
        due("PLACES go on", x.count(1), 3);
        x.deliver(2, 0, false);
        x.save();
        x.ack(true);
        due("cut()", x.cut(), 1);
        commitKeys(x, 0, 0);
        due("log(3, 2)", x.log(3, 2), 2);
    }

    private static void deliver() {
        OutboxHouse x = relayed(12, 0);
        for (int bad : new int[] {-1, 3, LOW, HIGH}) {
            due("deliver(" + bad + ", 0, true)", x.deliver(bad, 0, true), BAD);
        }
        for (int bad : new int[] {-1, 12, LOW, HIGH}) {
            due("deliver(0, " + bad + ", true)", x.deliver(0, bad, true), BAD);
        }
        due("deliver(1, 0, true)", x.deliver(1, 0, true), BAD);
        due("deliver(0, 0, true)", x.deliver(0, 0, true), DONE);
        due("deliver(0, 0, true)", x.deliver(0, 0, true), TWICE);
        for (int i = 9; i > 1; i--) {
            due("deliver(0, " + i + ", true)", x.deliver(0, i, true), HELD);
        }
        due("HELD already, no room", x.deliver(0, 5, true), TWICE);
        due("one too many", x.deliver(0, 10, true), LOST);
        due("one too many", x.deliver(0, 11, false), LOST);
        dueCounts(x, 0, 12, 12, 12, 0, 0, 11, 12, 1, 2, 8, 2, 0, 0);
        due("key(0, 4)", x.key(0, 4), 1);
        due("the HELD ones follow", x.deliver(0, 1, false), DONE);
        due("key(0, 4)", x.key(0, 4), 10);
        due("key(0, 3)", x.key(0, 3), 100);
        dueCounts(x, 0, 12, 12, 12, 0, 0, 10, 12, 10, 2, 0, 2, 0, 0);
        due("those behind move up", x.letter(0, 1, 0), 2);
        due("save()", x.save(), 10);
        due("count(13)", x.count(13), 10);
        deliverHeldOfOtherKeys();
    }

    private static void deliverHeldOfOtherKeys() {
        OutboxHouse x = relayed(3, 0, 3);
        due("key 0, ORDER 2", x.deliver(0, 2, true), HELD);
        due("key 3, ORDER 2", x.deliver(0, 3, true), HELD);
        due("key 3, ORDER 3", x.deliver(0, 5, true), HELD);
        due("key 3, ORDER 1", x.deliver(0, 1, true), DONE);
        due("key(3, 4)", x.key(3, 4), 3);
        due("key(0, 4)", x.key(0, 4), 0);
        due("count(10)", x.count(10), 1);
        due("key 0, ORDER 3", x.deliver(0, 4, true), HELD);
        due("key 0, ORDER 1", x.deliver(0, 0, true), DONE);
        due("key(0, 4)", x.key(0, 4), 3);
        due("key(0, 3)", x.key(0, 3), 30);
        due("key(3, 3)", x.key(3, 3), 33);
    }

    private static void lose() {
        OutboxHouse x = relayed(2, 1, 4);
        for (int bad : new int[] {-1, 0, 2, 3, LOW, HIGH}) {
            due("lose(" + bad + ", 0)", x.lose(bad, 0), BAD);
        }
        for (int bad : new int[] {-1, 4, LOW, HIGH}) {
            due("lose(1, " + bad + ")", x.lose(1, bad), BAD);
        }
        due("count(11)", x.count(11), 0);
        due("lose(1, 1)", x.lose(1, 1), 1);
        due("lose(1, 1)", x.lose(1, 1), 2);
        due("lose(1, 1)", x.lose(1, 1), 3);
        due("lose(1, 1)", x.lose(1, 1), BAD);
        due("count(6)", x.count(6), 1);
        due("count(7)", x.count(7), 4);
        due("count(11)", x.count(11), 3);
        due("count(3)", x.count(3), 4);
        due("letter(1, 0, 0)", x.letter(1, 0, 0), 0);
    }

    private static void letter() {
        OutboxHouse x = relayed(2, 2, 5);
        int[][] want = {{0, 2, 1, 12}, {1, 5, 1, 15}, {2, 2, 2, 22}, {3, 5, 2, 25}};
        for (int i = 0; i < 4; i++) {
            for (int what = 0; what < 4; what++) {
                due("letter(2, " + i + ", " + what + ")", x.letter(2, i, what), want[i][what]);
            }
        }
        for (int none : new int[] {-1, 4, 39, 40, LOW, HIGH}) {
            due("letter(2, " + none + ", 0)", x.letter(2, none, 0), NONE);
            due("letter(2, " + none + ", 4)", x.letter(2, none, 4), BAD);
        }
        for (int bad : new int[] {-1, 3, LOW, HIGH}) {
            due("letter(" + bad + ", 0, 0)", x.letter(bad, 0, 0), BAD);
        }
        for (int bad : new int[] {-1, 4, LOW, HIGH}) {
            due("letter(2, 0, " + bad + ")", x.letter(2, 0, bad), BAD);
        }
        due("letter(0, 0, 0)", x.letter(0, 0, 0), NONE);
        x.flow(1);
        due("gone", x.letter(2, 0, 0), NONE);
    }

    private static void save() {
        OutboxHouse x = relayed(2, 0, 1);
        x.deliver(0, 0, false);
        x.deliver(1, 1, true);
        x.deliver(1, 0, false);
        due("key(1, 6)", x.key(1, 6), 0);
        due("save()", x.save(), 3);
        due("save() again", x.save(), 0);
        due("key(1, 5)", x.key(1, 5), 21);
        due("key(1, 6)", x.key(1, 6), 2);
        due("nothing to take back", x.crash(2), 0);
        x.deliver(0, 0, true);
        due("crash(2)", x.crash(2), 1);
        due("save() of what is on disk", x.save(), 0);
        due("key(0, 4)", x.key(0, 4), 1);
        due("HELD is not saved", x.count(10), 0);
    }

    private static void ack() {
        OutboxHouse x = relayed(2, 0, 1, 2);
        x.deliver(2, 0, false);
        x.deliver(2, 0, false);
        x.save();
        due("0 is not there", x.ack(true), 0);
        x.deliver(0, 0, false);
        due("memory does not count", x.ack(true), 0);
        x.save();
        due("ack(false)", x.ack(false), 1);
        due("count(4)", x.count(4), 0);
        due("ack(true)", x.ack(true), 1);
        due("count(4)", x.count(4), 1);
        x.deliver(1, 0, false);
        x.save();
        due("those beyond count", x.ack(false), 3);
        due("count(4)", x.count(4), 1);
        due("crash(1)", x.crash(1), 5);
        due("ack(true)", x.ack(true), 3);
        due("POSITION goes along", x.count(3), 3);
        due("relay(20)", x.relay(20), 3);
        due("ack(true)", x.ack(true), 3);
        due("POSITION is more", x.count(3), 6);
        due("crash(2)", x.crash(2), 0);
        due("disk keeps it", x.ack(true), 3);
    }

    private static void flow() {
        OutboxHouse x = new OutboxHouse();
        for (int bad : new int[] {-1, 0, 11, LOW, HIGH}) {
            due("flow(" + bad + ")", x.flow(bad), BAD);
        }
        commitFlushed(x, 10, 0, 1, 2, 3, 4, 5);
        due("only READ", x.flow(1), 0);
        due("count(6)", x.count(6), 6);
        due("flow(1)", x.flow(1), 6);
        dueCounts(x, 0, 6, 6, 6, 6, 0, 0, 6, 6, 0, 0, 0, 0, 6);
        due("key(5, 6)", x.key(5, 6), 1);
        commitFlushed(x, 20, 0, 3);
        due("flow(2)", x.flow(2), 2);
        due("flow(10)", x.flow(10), 0);
        flowPastFullLanes();
        flowWithLoss();
        flowLaneByLane();
    }

    private static void flowPastFullLanes() {
        OutboxHouse x = new OutboxHouse();
        for (int n = 0; n < 45; n++) {
            commitFlushed(x, n, 0, 1);
        }
        due("flow(1)", x.flow(1), 0);
        due("as far as LANES have room", x.count(3), 80);
        due("flow(1)", x.flow(1), 80);
        due("count(6)", x.count(6), 10);
        due("flow(1)", x.flow(1), 10);
        due("count(4)", x.count(4), 90);
    }

    private static void flowWithLoss() {
        OutboxHouse x = relayed(12, 0);
        x.lose(0, 0);
        due("HELD and LOST", x.flow(1), 0);
        due("count(10)", x.count(10), 8);
        due("count(11)", x.count(11), 4);
        due("nothing is READ again", x.flow(10), 0);
        due("crash(1)", x.crash(1), 12);
        due("flow(10)", x.flow(10), 12);
        due("count(9)", x.count(9), 8);
        due("prefix(1)", x.prefix(1), 1);
    }

    /** Which letters still find room tells in which order they came. */
    private static void flowLaneByLane() {
        OutboxHouse x = relayed(6, 0, 1);
        x.lose(0, 0);
        x.lose(1, 0);
        due("flow(1)", x.flow(1), 0);
        due("count(11)", x.count(11), 4);
        x.crash(1);
        x.relay(2);
        due("deliver(0, 0, false)", x.deliver(0, 0, false), DONE);
        due("all of LANE 0 were HELD", x.key(0, 4), 6);
        due("deliver(1, 0, false)", x.deliver(1, 0, false), DONE);
        due("the first of LANE 1", x.key(1, 4), 4);
    }

    private static void whole() {
        OutboxHouse x = relayed(2, 0, 1);
        x.deliver(0, 0, false);
        due("memory does not count", x.whole(), 1);
        x.save();
        due("one of two", x.whole(), 0);
        x.deliver(1, 0, false);
        due("before save()", x.whole(), 0);
        x.save();
        due("both", x.whole(), 1);
        x.ack(true);
        x.cut();
        due("after cut()", x.whole(), 1);
        x.deliver(1, 0, false);
        x.save();
        due("the last alone", x.whole(), 0);
        x.crash(2);
        due("after a crash", x.whole(), 0);
        x.deliver(0, 0, false);
        x.save();
        due("all", x.whole(), 1);
        commitKeys(x, 0, 0, 1);
        due("unflushed ones", x.whole(), 1);
        wholeWithGaps();
    }

    private static void wholeWithGaps() {
        OutboxHouse x = new OutboxHouse();
        commitFlushed(x, 10, 0, 1);
        commitFlushed(x, 20, 2, 3);
        x.relay(20);
        x.deliver(2, 0, false);
        x.deliver(0, 1, false);
        x.save();
        due("the second commit alone", x.whole(), 1);
        x.deliver(0, 0, false);
        x.save();
        x.ack(true);
        x.cut();
        due("half a commit is CUT", x.count(5), 1);
        due("half of the first", x.whole(), 0);
    }

    private static void prefix() {
        OutboxHouse x = relayed(3, 0, 1);
        for (int bad : new int[] {-1, 2, LOW, HIGH}) {
            due("prefix(" + bad + ")", x.prefix(bad), BAD);
        }
        x.deliver(0, 2, true);
        x.deliver(0, 1, true);
        x.deliver(1, 0, true);
        due("prefix(0)", x.prefix(0), 1);
        due("prefix(1)", x.prefix(1), 1);
        x.deliver(0, 0, true);
        due("prefix(0)", x.prefix(0), 1);
        x.save();
        due("prefix(1)", x.prefix(1), 1);
        x.ack(true);
        x.cut();
        commitKeys(x, 50, 0, 1);
        due("prefix(0)", x.prefix(0), 1);
        x.flush();
        due("prefix(0)", x.prefix(0), 1);
        due("prefix(1)", x.prefix(1), 1);
    }

    private static void count() {
        OutboxHouse x = relayed(2, 0, 1, 2);
        x.begin();
        x.write(0, 5, 1);
        x.commit(0);
        x.begin();
        x.begin();
        x.deliver(0, 0, true);
        x.deliver(0, 0, true);
        x.deliver(1, 1, false);
        x.lose(2, 0);
        x.save();
        x.ack(true);
        x.cut();
        x.crash(1);
        x.relay(2);
        dueCounts(x, 2, 7, 6, 3, 1, 1, 6, 8, 1, 1, 1, 1, 1, 1);
        x.deliver(1, 0, false);
        x.save();
        due("without ack()", x.count(13), 2);
        due("without ack()", x.count(4), 1);
        for (int bad : new int[] {-1, 14, LOW, HIGH}) {
            due("count(" + bad + ")", x.count(bad), BAD);
        }
    }

    private static void check(int number) {
        promise = number;
        switch (number) {
            case 1 -> newObject();
            case 2 -> begin();
            case 3 -> write();
            case 4 -> read();
            case 5 -> commit();
            case 6 -> abort();
            case 7 -> flush();
            case 8 -> crash();
            case 9 -> key();
            case 10 -> log();
            case 11 -> relay();
            case 12 -> cut();
            case 13 -> deliver();
            case 14 -> lose();
            case 15 -> letter();
            case 16 -> save();
            case 17 -> ack();
            case 18 -> flow();
            case 19 -> whole();
            case 20 -> prefix();
            default -> count();
        }
    }

    public static void main(String[] args) {
        for (int number = 1; number <= 21; number++) {
            check(number);
        }
        System.out.println(wrong == 0 ? "all promises hold" : wrong + " answers are not as due");
        if (wrong != 0) {
            System.exit(1);
        }
    }
}
