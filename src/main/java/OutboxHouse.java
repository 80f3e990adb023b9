import java.util.Arrays;

/** A table whose changes reach another house by letters, whatever crashes. */
public final class OutboxHouse {
    public static final int BAD = -1, STATE = -2, FULL = -3, NONE = -9;
    public static final int DONE = 1, TWICE = 2, HELD = 3, LOST = 4;

    private static final int KEYS = 6;
    private static final int TRANSACTIONS = 4;
    private static final int PLACES = 400;
    private static final int LANES = 3;
    private static final int LANE_ROOM = 40;
    private static final int HELD_ROOM = 8;
    private static final int MOST_READS = 20;
    private static final int MOST_ROUNDS = 10;

    private final ChangeLog changes;
    private final Source source;
    private final Relay reader;
    private final Target target;
    private int crashes;

    public OutboxHouse() {
        changes = new ChangeLog();
        source = new Source(changes);
        reader = new Relay(changes);
        target = new Target(changes);
    }

    // ---- the source

    public int begin() {
        return source.openFirstFree();
    }

    public int write(int transaction, int key, int v) {
        if (!source.isOpen(transaction) || !isKey(key)) {
            return BAD;
        }
        return source.draft(transaction, key, v) ? 1 : STATE;
    }

    public int read(int transaction, int key) {
        if (!source.isOpen(transaction) || !isKey(key)) {
            return 0;
        }
        return source.seenBy(transaction, key);
    }

    public int commit(int transaction) {
        if (!source.isOpen(transaction)) {
            return BAD;
        }
        int written = source.lockedKeys(transaction);
        if (!changes.hasRoomFor(written)) {
            return FULL;
        }
        source.putIntoLog(transaction, written);
        return written;
    }

    public int abort(int transaction) {
        if (!source.isOpen(transaction)) {
            return BAD;
        }
        int written = source.lockedKeys(transaction);
        source.giveUp(transaction);
        return written;
    }

    public int flush() {
        return source.flushChanges();
    }

    public int crash(int house) {
        if (house < 0 || house > 2) {
            return BAD;
        }
        crashes++;
        switch (house) {
            case 0:
                return source.restart();
            case 1:
                return reader.restart();
            default:
                return target.restart();
        }
    }

    public int key(int key, int what) {
        if (!isKey(key)) {
            return 0;
        }
        switch (what) {
            case 0:
                return source.values[key];
            case 1:
                return source.counts[key];
            case 2:
                return source.lockOf(key);
            case 3:
                return target.memory.values[key];
            case 4:
                return target.memory.done[key];
            case 5:
                return target.disk.values[key];
            case 6:
                return target.disk.done[key];
            default:
                return 0;
        }
    }

    // ---- the log, the relay, lanes

    public int log(int place, int what) {
        if (what < 0 || what > 4) {
            return BAD;
        }
        Change change = changes.at(place);
        if (change == null || changes.isCut(place)) {
            return NONE;
        }
        switch (what) {
            case 0:
                return change.key;
            case 1:
                return change.value;
            case 2:
                return change.order;
            case 3:
                return changes.isFlushed(place) ? 1 : 0;
            default:
                return change.last ? 1 : 0;
        }
    }

    public int relay(int n) {
        if (n < 1 || n > MOST_READS) {
            return BAD;
        }
        return reader.readOn(n);
    }

    public int cut() {
        return changes.cutUpTo(reader.mark);
    }

    public int deliver(int lane, int i, boolean stays) {
        Change change = reader.letterAt(lane, i);
        if (change == null) {
            return BAD;
        }
        if (!stays) {
            reader.dropLetter(lane, i);
        }
        return target.take(change);
    }

    public int lose(int lane, int i) {
        Change change = reader.letterAt(lane, i);
        if (change == null) {
            return BAD;
        }
        reader.dropLetter(lane, i);
        reader.lostUnderWay++;
        return change.place;
    }

    public int letter(int lane, int i, int what) {
        if (!isLane(lane) || what < 0 || what > 3) {
            return BAD;
        }
        Change change = reader.letterAt(lane, i);
        if (change == null) {
            return NONE;
        }
        switch (what) {
            case 0:
                return change.place;
            case 1:
                return change.key;
            case 2:
                return change.order;
            default:
                return change.value;
        }
    }

    // ---- the target

    public int save() {
        return target.saveMemory();
    }

    public int ack(boolean heard) {
        if (heard) {
            reader.hear(target.disk.upTo);
        }
        return target.disk.upTo;
    }

    public int flow(int n) {
        if (n < 1 || n > MOST_ROUNDS) {
            return BAD;
        }
        int before = target.doneEver;
        for (int round = 0; round < n; round++) {
            deliverAll();
            target.saveMemory();
            reader.hear(target.disk.upTo);
            reader.readOn(PLACES);
        }
        return target.doneEver - before;
    }

    public int whole() {
        return target.diskIsWhole() ? 1 : 0;
    }

    public int prefix(int which) {
        if (which < 0 || which > 1) {
            return BAD;
        }
        TargetState state = which == 0 ? target.memory : target.disk;
        return state.isAsFlushed(changes) ? 1 : 0;
    }

    public int count(int what) {
        switch (what) {
            case 0:
                return source.openTransactions();
            case 1:
                return changes.end;
            case 2:
                return changes.flushed;
            case 3:
                return reader.position;
            case 4:
                return reader.mark;
            case 5:
                return changes.first;
            case 6:
                return reader.lettersUnderWay();
            case 7:
                return reader.sentEver;
            case 8:
                return target.doneEver;
            case 9:
                return target.twiceEver;
            case 10:
                return target.held.size;
            case 11:
                return reader.lostUnderWay + target.lostForRoom;
            case 12:
                return crashes;
            case 13:
                return target.disk.upTo;
            default:
                return BAD;
        }
    }

    private void deliverAll() {
        for (int lane = 0; lane < LANES; lane++) {
            Row row = reader.lanes[lane];
            for (int i = 0; i < LANE_ROOM; i++) {
                Change change = row.at(i);
                if (change == null) {
                    break;
                }
                target.take(change);
            }
            row.clear();
        }
    }

    private static boolean isKey(int key) {
        return key >= 0 && key < KEYS;
    }

    private static boolean isLane(int lane) {
        return lane >= 0 && lane < LANES;
    }

    /** Never changes once made, so that the log, letters and held rows may share it. */
    private static final class Change {
        final int place;
        final int key;
        final int value;
        final int order;
        final boolean last;

        Change(int place, int key, int value, int order, boolean last) {
            this.place = place;
            this.key = key;
            this.value = value;
            this.order = order;
            this.last = last;
        }
    }

    /** Keeps cut changes too: whole() and prefix() judge by all that was flushed ever. */
    private static final class ChangeLog {
        private final Change[] rows = new Change[PLACES];
        private int first;
        private int flushed;
        private int end;

        boolean hasRoomFor(int more) {
            return more <= PLACES - end;
        }

        void append(int key, int value, int order, boolean last) {
            if (end < PLACES) {
                rows[end] = new Change(end, key, value, order, last);
                end++;
            }
        }

        Change at(int place) {
            return place >= 0 && place < end ? rows[place] : null;
        }

        Change flushedAt(int place) {
            return place >= 0 && place < flushed ? rows[place] : null;
        }

        boolean isFlushed(int place) {
            return place < flushed;
        }

        boolean isCut(int place) {
            return place < first;
        }

        int dropUnflushed() {
            int gone = end - flushed;
            end = flushed;
            return gone;
        }

        int cutUpTo(int place) {
            int gone = place - first;
            first = place;
            return gone;
        }
    }

    private static final class Source {
        private static final int NOBODY = -1;
        private static final int UNFLUSHED = TRANSACTIONS;

        private final ChangeLog changes;
        private final int[] values = new int[KEYS];
        private final int[] counts = new int[KEYS];
        // A key has one owner at a time, so one draft for each key is enough.
        private final int[] owners = new int[KEYS];
        private final int[] drafts = new int[KEYS];
        private final boolean[] open = new boolean[TRANSACTIONS];

        Source(ChangeLog changes) {
            this.changes = changes;
            Arrays.fill(owners, NOBODY);
        }

        boolean isOpen(int transaction) {
            return transaction >= 0 && transaction < TRANSACTIONS && open[transaction];
        }

        int openFirstFree() {
            for (int t = 0; t < TRANSACTIONS; t++) {
                if (!open[t]) {
                    open[t] = true;
                    return t;
                }
            }
            return FULL;
        }

        int openTransactions() {
            int n = 0;
            for (int t = 0; t < TRANSACTIONS; t++) {
                if (open[t]) {
                    n++;
                }
            }
            return n;
        }

        boolean draft(int transaction, int key, int value) {
            if (owners[key] != NOBODY && owners[key] != transaction) {
                return false;
            }
            owners[key] = transaction;
            drafts[key] = value;
            return true;
        }

        int seenBy(int transaction, int key) {
            return owners[key] == transaction ? drafts[key] : values[key];
        }

        int lockedKeys(int transaction) {
            int n = 0;
            for (int key = 0; key < KEYS; key++) {
                if (owners[key] == transaction) {
                    n++;
                }
            }
            return n;
        }

        int lockOf(int key) {
            if (owners[key] == NOBODY) {
                return 0;
            }
            return owners[key] == UNFLUSHED ? 2 : 1;
        }

        void putIntoLog(int transaction, int written) {
            int put = 0;
            for (int key = 0; key < KEYS; key++) {
                if (owners[key] == transaction) {
                    put++;
                    // The lock keeps a second unflushed change of the key away, so COUNT tells the order.
                    changes.append(key, drafts[key], counts[key] + 1, put == written);
                }
            }
            finish(transaction, UNFLUSHED);
        }

        void giveUp(int transaction) {
            finish(transaction, NOBODY);
        }

        private void finish(int transaction, int nextOwner) {
            for (int key = 0; key < KEYS; key++) {
                if (owners[key] == transaction) {
                    owners[key] = nextOwner;
                }
            }
            open[transaction] = false;
        }

        int flushChanges() {
            int before = changes.flushed;
            for (int place = before; place < PLACES; place++) {
                Change change = changes.at(place);
                if (change == null) {
                    break;
                }
                values[change.key] = change.value;
                counts[change.key] = change.order;
                owners[change.key] = NOBODY;
            }
            changes.flushed = changes.end;
            return changes.flushed - before;
        }

        int restart() {
            for (int t = 0; t < TRANSACTIONS; t++) {
                open[t] = false;
            }
            Arrays.fill(owners, NOBODY);
            return changes.dropUnflushed();
        }
    }

    /** Changes in a row with limited room: the letters of a lane, or what the target holds. */
    private static final class Row {
        private final Change[] slots;
        private int size;

        Row(int room) {
            slots = new Change[Math.max(room, 0)];
        }

        boolean isFull() {
            return size >= slots.length;
        }

        void add(Change change) {
            if (size < slots.length) {
                slots[size] = change;
                size++;
            }
        }

        Change at(int i) {
            return i >= 0 && i < size ? slots[i] : null;
        }

        void remove(int i) {
            if (i < 0 || i >= size) {
                return;
            }
            for (int k = i + 1; k < size; k++) {
                slots[k - 1] = slots[k];
            }
            size--;
        }

        int find(int key, int order) {
            for (int i = 0; i < size; i++) {
                Change change = slots[i];
                if (change != null && change.key == key && change.order == order) {
                    return i;
                }
            }
            return NONE;
        }

        void clear() {
            size = 0;
        }
    }

    private static final class Relay {
        private final ChangeLog changes;
        private final Row[] lanes = new Row[LANES];
        private int position;
        private int mark;
        private int sentEver;
        private int lostUnderWay;

        Relay(ChangeLog changes) {
            this.changes = changes;
            for (int lane = 0; lane < LANES; lane++) {
                lanes[lane] = new Row(LANE_ROOM);
            }
        }

        int readOn(int most) {
            int read = 0;
            while (read < most && readOne()) {
                read++;
            }
            return read;
        }

        private boolean readOne() {
            Change change = changes.flushedAt(position);
            if (change == null) {
                return false;
            }
            Row lane = lanes[change.key % LANES];
            if (lane.isFull()) {
                return false;
            }
            lane.add(change);
            position++;
            sentEver++;
            return true;
        }

        Change letterAt(int lane, int i) {
            return isLane(lane) ? lanes[lane].at(i) : null;
        }

        void dropLetter(int lane, int i) {
            if (isLane(lane)) {
                lanes[lane].remove(i);
            }
        }

        void hear(int place) {
            mark = Math.max(mark, place);
            position = Math.max(position, mark);
        }

        int restart() {
            int back = position - mark;
            position = mark;
            return back;
        }

        int lettersUnderWay() {
            int n = 0;
            for (int lane = 0; lane < LANES; lane++) {
                n += lanes[lane].size;
            }
            return n;
        }
    }

    /**
     * What the target knows, in memory or on disk. A key's changes are done in their order, so DONE of
     * each key tells which places beyond upTo are done: no list of them is kept.
     */
    private static final class TargetState {
        private final int[] values = new int[KEYS];
        private final int[] done = new int[KEYS];
        private int upTo;

        boolean has(Change change) {
            return change != null && change.order <= done[change.key];
        }

        void apply(Change change, ChangeLog changes) {
            values[change.key] = change.value;
            done[change.key] = change.order;
            for (int step = 0; step < PLACES && has(changes.flushedAt(upTo)); step++) {
                upTo++;
            }
        }

        /** Answers how many changes more are done in the other state. */
        int become(TargetState other) {
            int more = 0;
            for (int key = 0; key < KEYS; key++) {
                more += other.done[key] - done[key];
                values[key] = other.values[key];
                done[key] = other.done[key];
            }
            upTo = other.upTo;
            return more;
        }

        boolean isAsFlushed(ChangeLog changes) {
            for (int place = 0; place < PLACES; place++) {
                Change change = changes.flushedAt(place);
                if (change == null) {
                    break;
                }
                if (change.order == done[change.key] && change.value != values[change.key]) {
                    return false;
                }
            }
            return true;
        }
    }

    private static final class Target {
        private final ChangeLog changes;
        private final TargetState memory = new TargetState();
        private final TargetState disk = new TargetState();
        private final Row held = new Row(HELD_ROOM);
        private int doneEver;
        private int twiceEver;
        private int lostForRoom;

        Target(ChangeLog changes) {
            this.changes = changes;
        }

        int take(Change change) {
            if (memory.has(change) || held.find(change.key, change.order) != NONE) {
                twiceEver++;
                return TWICE;
            }
            if (change.order == memory.done[change.key] + 1) {
                doNow(change);
                doHeldThatFollow(change.key);
                return DONE;
            }
            if (held.isFull()) {
                lostForRoom++;
                return LOST;
            }
            held.add(change);
            return HELD;
        }

        private void doNow(Change change) {
            memory.apply(change, changes);
            doneEver++;
        }

        private void doHeldThatFollow(int key) {
            for (int step = 0; step < HELD_ROOM; step++) {
                int i = held.find(key, memory.done[key] + 1);
                Change change = held.at(i);
                if (change == null) {
                    return;
                }
                held.remove(i);
                doNow(change);
            }
        }

        int saveMemory() {
            return disk.become(memory);
        }

        int restart() {
            held.clear();
            return -memory.become(disk);
        }

        boolean diskIsWhole() {
            boolean some = false;
            boolean missing = false;
            for (int place = 0; place < PLACES; place++) {
                Change change = changes.flushedAt(place);
                if (change == null) {
                    break;
                }
                if (disk.has(change)) {
                    some = true;
                } else {
                    missing = true;
                }
                if (some && missing) {
                    return false;
                }
                if (change.last) {
                    some = false;
                    missing = false;
                }
            }
            return true;
        }
    }
}
