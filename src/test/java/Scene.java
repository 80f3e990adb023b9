/** States of a house that the tests begin from; each is made anew by the same calls. */
enum Scene {
    FRESH, BUSY, FULL_TRANSACTIONS, FULL_LANE, FULL_HELD;

    House make() {
        return switch (this) {
            case FRESH -> new House();
            case BUSY -> busy();
            case FULL_TRANSACTIONS -> fullTransactions();
            case FULL_LANE -> fullLane();
            case FULL_HELD -> fullHeld();
        };
    }

    /**
     * Something in every part: PLACE 0 is CUT, 1 and 2 are told anew, 7 is not FLUSHED; TRANSACTIONS 0 and 2
     * are open; KEY 3 is LOCKED by 2, 5 by 0, 4 by CHANGES; LANES have 3, 3, 1 LETTERS; one LETTER is HELD;
     * memory is one CHANGE ahead of disk.
     */
    private static House busy() {
        House x = new House();
        x.commitFlushed(10, 0, 1, 2);
        x.commitFlushed(20, 0, 3);
        x.commitFlushed(30, 0, 1);
        x.relay(20);
        x.deliver(0, 0, false);
        x.save();
        x.ack(true);
        x.cut();
        x.deliver(1, 0, true);
        x.deliver(1, 0, true);
        x.deliver(0, 2, true);
        x.lose(2, 0);
        x.crash(1);
        x.relay(2);
        x.commitKeys(40, 4);
        x.begin();
        x.begin();
        x.begin();
        x.abort(1);
        x.write(0, 5, 55);
        x.write(2, 3, 33);
        return x;
    }

    private static House fullTransactions() {
        House x = new House();
        for (int t = 0; t < 4; t++) {
            x.begin();
            x.write(t, t + 1, 100 + t);
        }
        return x;
    }

    /** LANE 0 has 40 LETTERS; PLACES 40 (LANE 0) and 41 (LANE 1) wait. */
    private static House fullLane() {
        House x = new House();
        x.commitFlushedTimes(20, 0, 3);
        x.commitFlushed(0, 0, 1);
        x.relay(20);
        x.relay(20);
        return x;
    }

    /** LANE 0 has ORDERS 1 .. 10 of KEY 0, of which 2 .. 9 are HELD, too. */
    private static House fullHeld() {
        House x = new House();
        x.commitFlushedTimes(10, 0);
        x.relay(20);
        for (int i = 1; i <= 8; i++) {
            x.deliver(0, i, true);
        }
        return x;
    }
}
