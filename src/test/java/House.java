/** An OutboxHouse that is asked no more than the 512 calls for which its answers are promised. */
final class House {
    private static final int MOST_CALLS = 512;

    private final OutboxHouse house = new OutboxHouse();
    private int calls = 0;

    private OutboxHouse asked() {
        calls++;
        if (calls == MOST_CALLS + 1) {
            Check.wrong("the test asks more than " + MOST_CALLS + " calls");
        }
        return house;
    }

    int begin() {
        return asked().begin();
    }

    int write(int transaction, int key, int v) {
        return asked().write(transaction, key, v);
    }

    int read(int transaction, int key) {
        return asked().read(transaction, key);
    }

    int commit(int transaction) {
        return asked().commit(transaction);
    }

    int abort(int transaction) {
        return asked().abort(transaction);
    }

    int flush() {
        return asked().flush();
    }

    int crash(int house) {
        return asked().crash(house);
    }

    int key(int key, int what) {
        return asked().key(key, what);
    }

    int log(int place, int what) {
        return asked().log(place, what);
    }

    int relay(int n) {
        return asked().relay(n);
    }

    int cut() {
        return asked().cut();
    }

    int deliver(int lane, int i, boolean stays) {
        return asked().deliver(lane, i, stays);
    }

    int lose(int lane, int i) {
        return asked().lose(lane, i);
    }

    int letter(int lane, int i, int what) {
        return asked().letter(lane, i, what);
    }

    int save() {
        return asked().save();
    }

    int ack(boolean heard) {
        return asked().ack(heard);
    }

    int flow(int n) {
        return asked().flow(n);
    }

    int whole() {
        return asked().whole();
    }

    int prefix(int which) {
        return asked().prefix(which);
    }

    int count(int what) {
        return asked().count(what);
    }

    /** One COMMIT that writes base + KEY to each of the KEYS. */
    void commitKeys(int base, int... keys) {
        int t = begin();
        for (int key : keys) {
            Check.due("write(" + t + ", " + key + ", ..)", write(t, key, base + key), 1);
        }
        Check.due("commit(" + t + ")", commit(t), keys.length);
    }

    void commitFlushed(int base, int... keys) {
        commitKeys(base, keys);
        Check.due("flush()", flush(), keys.length);
    }

    void commitFlushedTimes(int times, int... keys) {
        for (int n = 1; n <= times; n++) {
            commitFlushed(10 * n, keys);
        }
    }
}
