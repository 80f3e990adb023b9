/** The sentences of the document that name a boundary, each by a test of its own. */
public final class EdgesTest {
    private static final int BAD = -1, STATE = -2, FULL = -3, NONE = -9;
    private static final int DONE = 1, TWICE = 2, HELD = 3, LOST = 4;
    private static final int LOW = Integer.MIN_VALUE, HIGH = Integer.MAX_VALUE;

    private static void due(String call, int got, int want) {
        Check.due(call, got, want);
    }

    private static House relayed(int commits, int... keys) {
        House x = new House();
        x.commitFlushedTimes(commits, keys);
        for (int left = commits * keys.length; left > 0; left -= 20) {
            due("relay(20)", x.relay(20), Math.min(left, 20));
        }
        return x;
    }

    // ---- the numbers at the ends of what is allowed

    private static void keysOfEachEnd() {
        House x = new House();
        x.begin();
        for (int key : new int[] {0, 5}) {
            due("write", x.write(0, key, 60 + key), 1);
            due("read", x.read(0, key), 60 + key);
            due("key(.., 2)", x.key(key, 2), 1);
        }
        due("commit(0)", x.commit(0), 2);
        x.flush();
        due("key(0, 0)", x.key(0, 0), 60);
        due("key(5, 0)", x.key(5, 0), 65);
    }

    private static void transactionsOfEachEnd() {
        House x = new House();
        for (int t = 0; t < 4; t++) {
            x.begin();
        }
        for (int t : new int[] {0, 3}) {
            due("write", x.write(t, t, 70 + t), 1);
            due("read", x.read(t, t), 70 + t);
        }
        due("commit(3)", x.commit(3), 1);
        due("abort(0)", x.abort(0), 1);
        due("count(0)", x.count(0), 2);
        due("log(0, 0)", x.log(0, 0), 3);
    }

    private static void lanesOfEachEnd() {
        House x = relayed(2, 0, 1, 2, 3, 4, 5);
        for (int lane : new int[] {0, 2}) {
            due("letter", x.letter(lane, 0, 1), lane);
            due("letter", x.letter(lane, 1, 1), lane + 3);
            due("deliver", x.deliver(lane, 0, false), DONE);
            due("lose", x.lose(lane, 0), lane + 3);
            due("letter", x.letter(lane, 0, 0), lane + 6);
        }
        due("LANE 1 is as it was", x.letter(1, 3, 0), 10);
    }

    private static void relayOneAndTwenty() {
        House x = new House();
        x.commitFlushedTimes(7, 0, 1, 2, 3, 4, 5);
        due("relay(1)", x.relay(1), 1);
        due("count(3)", x.count(3), 1);
        due("relay(20)", x.relay(20), 20);
        due("count(3)", x.count(3), 21);
        due("relay(19)", x.relay(19), 19);
        due("two are left", x.relay(20), 2);
        due("none is left", x.relay(1), 0);
        due("count(7)", x.count(7), 42);
    }

    private static void flowOneRound() {
        House x = new House();
        x.commitFlushedTimes(2, 0, 1, 2);
        due("LETTERS come first, and there are none", x.flow(1), 0);
        due("count(6)", x.count(6), 6);
        due("count(13)", x.count(13), 0);
        due("flow(1)", x.flow(1), 6);
        due("count(13)", x.count(13), 6);
        due("count(4)", x.count(4), 6);
    }

    /** 200 CHANGES go through a LANE of 40 by five rounds of reading and five of delivering. */
    private static void flowRoundsAreCounted() {
        House x = new House();
        x.commitFlushedTimes(100, 0, 3);
        due("flow(5)", x.flow(5), 160);
        due("count(6)", x.count(6), 40);
        due("count(3)", x.count(3), 200);
        due("flow(1)", x.flow(1), 40);
        due("flow(10)", x.flow(10), 0);
        due("count(13)", x.count(13), 200);
    }

    private static void whatsOfEachEnd() {
        House x = Scene.BUSY.make();
        due("key(0, 0)", x.key(0, 0), 30);
        due("key(0, 6)", x.key(0, 6), 1);
        due("log(1, 0)", x.log(1, 0), 1);
        due("log(2, 4)", x.log(2, 4), 1);
        due("letter(0, 0, 0)", x.letter(0, 0, 0), 3);
        due("letter(0, 0, 2)", x.letter(0, 0, 2), 2);
        due("letter(0, 0, 3)", x.letter(0, 0, 3), 20);
        due("count(0)", x.count(0), 2);
        due("count(2)", x.count(2), 7);
        due("count(13)", x.count(13), 1);
        due("prefix(0)", x.prefix(0), 1);
        due("prefix(1)", x.prefix(1), 1);
        due("crash(0)", x.crash(0), 1);
        due("crash(2)", x.crash(2), 1);
    }

    // ---- what is empty

    private static void emptyLog() {
        House x = new House();
        for (int what = 0; what < 5; what++) {
            due("log(0, " + what + ")", x.log(0, what), NONE);
        }
        due("flush()", x.flush(), 0);
        due("relay(20)", x.relay(20), 0);
        due("cut()", x.cut(), 0);
        due("ack(true)", x.ack(true), 0);
        due("whole()", x.whole(), 1);
        due("prefix(0)", x.prefix(0), 1);
        due("prefix(1)", x.prefix(1), 1);
    }

    private static void emptyAgainByCrash() {
        House x = new House();
        x.commitKeys(10, 0, 5);
        due("crash(0)", x.crash(0), 2);
        due("log(0, 0)", x.log(0, 0), NONE);
        due("flush()", x.flush(), 0);
        due("relay(20)", x.relay(20), 0);
        due("count(1)", x.count(1), 0);
        due("crash(0) again", x.crash(0), 0);
        x.commitFlushed(20, 5);
        due("PLACE 0 is told again", x.log(0, 1), 25);
        due("from ORDER 1 on", x.log(0, 2), 1);
    }

    private static void emptyAgainByCut() {
        House x = new House();
        x.commitFlushed(10, 0, 1);
        x.flow(2);
        due("cut()", x.cut(), 2);
        due("log(0, 0)", x.log(0, 0), NONE);
        due("log(1, 0)", x.log(1, 0), NONE);
        due("relay(20)", x.relay(20), 0);
        due("whole()", x.whole(), 1);
        due("prefix(1)", x.prefix(1), 1);
        x.commitFlushed(20, 1);
        due("PLACES go on", x.log(2, 1), 21);
        due("and ORDERS", x.log(2, 2), 2);
        due("count(5)", x.count(5), 2);
    }

    private static void emptyLane() {
        House x = relayed(1, 0, 2);
        due("deliver(1, 0, true)", x.deliver(1, 0, true), BAD);
        due("deliver(1, 0, false)", x.deliver(1, 0, false), BAD);
        due("lose(1, 0)", x.lose(1, 0), BAD);
        due("letter(1, 0, 0)", x.letter(1, 0, 0), NONE);
        due("flow(1)", x.flow(1), 2);
    }

    private static void emptyLaneAgain() {
        House x = relayed(1, 0, 1, 2);
        x.deliver(0, 0, false);
        due("gone by delivery", x.deliver(0, 0, false), BAD);
        due("letter(0, 0, 0)", x.letter(0, 0, 0), NONE);
        x.lose(1, 0);
        due("gone by loss", x.lose(1, 0), BAD);
        due("letter(1, 0, 0)", x.letter(1, 0, 0), NONE);
        x.flow(1);
        due("gone by flow", x.lose(2, 0), BAD);
        due("letter(2, 0, 0)", x.letter(2, 0, 0), NONE);
        due("count(6)", x.count(6), 0);
    }

    private static void commitWithoutChanges() {
        House x = new House();
        x.commitKeys(10, 0, 1);
        x.begin();
        x.begin();
        x.write(1, 5, 7);
        due("commit(0)", x.commit(0), 0);
        due("it is over", x.commit(0), BAD);
        due("count(0)", x.count(0), 1);
        due("count(1)", x.count(1), 2);
        due("log(1, 4)", x.log(1, 4), 1);
        due("the other one's KEY", x.key(5, 2), 1);
        due("CHANGES' KEY", x.key(0, 2), 2);
        due("flush()", x.flush(), 2);
        due("begin()", x.begin(), 0);
    }

    private static void commitOfRefusedWrites() {
        House x = new House();
        x.begin();
        x.begin();
        x.write(0, 1, 7);
        due("write(1, 1, 8)", x.write(1, 1, 8), STATE);
        due("write(1, 6, 8)", x.write(1, 6, 8), BAD);
        due("commit(1)", x.commit(1), 0);
        due("commit(0)", x.commit(0), 1);
        due("log(0, 1)", x.log(0, 1), 7);
    }

    private static void abortWithoutWrites() {
        House x = new House();
        x.begin();
        due("abort(0)", x.abort(0), 0);
        due("it is over", x.abort(0), BAD);
        due("begin()", x.begin(), 0);
    }

    // ---- what is full

    private static void fourTransactions() {
        House x = new House();
        for (int t = 0; t < 4; t++) {
            due("begin()", x.begin(), t);
        }
        due("begin()", x.begin(), FULL);
        due("count(0)", x.count(0), 4);
        x.commit(3);
        due("after commit(3)", x.begin(), 3);
        due("begin()", x.begin(), FULL);
        x.abort(0);
        due("after abort(0)", x.begin(), 0);
        due("begin()", x.begin(), FULL);
        x.abort(3);
        x.abort(1);
        due("the first that is free", x.begin(), 1);
        due("then the next", x.begin(), 3);
        x.crash(0);
        for (int t = 0; t < 4; t++) {
            due("after crash(0)", x.begin(), t);
        }
        due("begin()", x.begin(), FULL);
    }

    private static void fortyLetters() {
        House x = new House();
        x.commitFlushedTimes(20, 0, 3);
        x.commitFlushed(0, 0, 1);
        due("relay(20)", x.relay(20), 20);
        due("relay(19)", x.relay(19), 19);
        due("the fortieth, and no more", x.relay(20), 1);
        due("letter(0, 39, 0)", x.letter(0, 39, 0), 39);
        due("letter(0, 40, 0)", x.letter(0, 40, 0), NONE);
        due("count(3)", x.count(3), 40);
        due("count(7)", x.count(7), 40);
        due("a full LANE holds the next one up", x.relay(20), 0);
        due("letter(1, 0, 0)", x.letter(1, 0, 0), NONE);
    }

    private static void roomInAFullLane() {
        House x = Scene.FULL_LANE.make();
        due("deliver(0, 0, true)", x.deliver(0, 0, true), DONE);
        due("what stays makes no room", x.relay(20), 0);
        due("deliver(0, 39, false)", x.deliver(0, 39, false), HELD);
        due("what goes makes room", x.relay(20), 2);
        due("letter(0, 39, 0)", x.letter(0, 39, 0), 40);
        due("letter(0, 38, 0)", x.letter(0, 38, 0), 38);
        due("letter(1, 0, 0)", x.letter(1, 0, 0), 41);
    }

    private static void roomByLoss() {
        House x = Scene.FULL_LANE.make();
        due("lose(0, 39)", x.lose(0, 39), 39);
        due("lose(0, 39)", x.lose(0, 39), BAD);
        due("count(11)", x.count(11), 1);
        due("relay(20)", x.relay(20), 2);
        due("lose(0, 39)", x.lose(0, 39), 40);
    }

    private static void allLanesAreFull() {
        House x = relayed(20, 0, 1, 2, 3, 4, 5);
        x.commitFlushed(0, 5);
        due("relay(20)", x.relay(20), 0);
        due("count(6)", x.count(6), 120);
        due("letter(2, 39, 0)", x.letter(2, 39, 0), 119);
        due("flow(1)", x.flow(1), 120);
        due("count(6)", x.count(6), 1);
        due("flow(1)", x.flow(1), 1);
    }

    private static void flowFillsLanes() {
        House x = new House();
        x.commitFlushedTimes(21, 0, 3);
        due("flow(1)", x.flow(1), 0);
        due("as far as there is room", x.count(6), 40);
        due("count(3)", x.count(3), 40);
        due("flow(1)", x.flow(1), 40);
        due("count(6)", x.count(6), 2);
    }

    private static void eightHeld() {
        House x = relayed(10, 0);
        for (int i = 1; i <= 8; i++) {
            due("deliver(0, " + i + ", true)", x.deliver(0, i, true), HELD);
            due("count(10)", x.count(10), i);
        }
        due("the ninth", x.deliver(0, 9, true), LOST);
        due("count(10)", x.count(10), 8);
        due("count(11)", x.count(11), 1);
        due("it stays in its LANE", x.letter(0, 9, 0), 9);
        due("again", x.deliver(0, 9, false), LOST);
        due("it is gone", x.letter(0, 9, 0), NONE);
        due("count(11)", x.count(11), 2);
        due("count(8)", x.count(8), 0);
    }

    private static void eightHeldInAll() {
        House x = relayed(3, 0, 1, 2, 3, 4, 5);
        int held = 0;
        for (int lane = 0; lane < 3; lane++) {
            for (int i = 2; i < 6; i++) {
                held++;
                due("deliver(" + lane + ", " + i + ", true)", x.deliver(lane, i, true), held <= 8 ? HELD : LOST);
            }
        }
        due("count(10)", x.count(10), 8);
        due("count(11)", x.count(11), 4);
        due("the first of KEY 2", x.deliver(2, 0, false), DONE);
        due("those LOST are not DONE", x.key(2, 4), 1);
        due("the first of KEY 0", x.deliver(0, 0, false), DONE);
        due("key(0, 4)", x.key(0, 4), 3);
        due("KEY 3 waits", x.key(3, 4), 0);
        due("count(10)", x.count(10), 6);
    }

    private static void heldOnceEach() {
        House x = Scene.FULL_HELD.make();
        due("deliver(0, 1, true)", x.deliver(0, 1, true), TWICE);
        due("deliver(0, 8, true)", x.deliver(0, 8, true), TWICE);
        due("count(9)", x.count(9), 2);
        due("count(10)", x.count(10), 8);
        due("count(11)", x.count(11), 0);
    }

    /** The LETTERS that THE RELAY tells anew are other LETTERS, but no other CHANGES. */
    private static void heldOnceEachByAnotherLetter() {
        House x = relayed(3, 0);
        due("deliver(0, 1, true)", x.deliver(0, 1, true), HELD);
        due("crash(1)", x.crash(1), 3);
        due("relay(20)", x.relay(20), 3);
        due("deliver(0, 4, true)", x.deliver(0, 4, true), TWICE);
        due("deliver(0, 3, true)", x.deliver(0, 3, true), DONE);
        due("key(0, 4)", x.key(0, 4), 2);
        due("deliver(0, 0, true)", x.deliver(0, 0, true), TWICE);
    }

    private static void theNextOneNeedsNoRoom() {
        House x = Scene.FULL_HELD.make();
        due("deliver(0, 0, false)", x.deliver(0, 0, false), DONE);
        due("key(0, 4)", x.key(0, 4), 9);
        due("key(0, 3)", x.key(0, 3), 90);
        due("count(8)", x.count(8), 9);
        due("count(10)", x.count(10), 0);
        due("deliver(0, 8, false)", x.deliver(0, 8, false), DONE);
    }

    private static void roomAfterTheTargetsCrash() {
        House x = Scene.FULL_HELD.make();
        due("crash(2)", x.crash(2), 0);
        due("count(10)", x.count(10), 0);
        due("deliver(0, 9, true)", x.deliver(0, 9, true), HELD);
        due("deliver(0, 0, true)", x.deliver(0, 0, true), DONE);
        due("what was HELD is not DONE", x.key(0, 4), 1);
        due("count(10)", x.count(10), 1);
    }

    private static void heldOutlivesOtherCrashes() {
        House x = Scene.FULL_HELD.make();
        x.crash(0);
        x.crash(1);
        x.save();
        x.ack(true);
        due("count(10)", x.count(10), 8);
        due("deliver(0, 0, true)", x.deliver(0, 0, true), DONE);
        due("key(0, 4)", x.key(0, 4), 9);
    }

    // ---- the log of 400 places: no run of 512 calls fills it, so these look past the 512th call

    private static void commitUnchecked(OutboxHouse x, int value, int... keys) {
        int t = x.begin();
        for (int key : keys) {
            x.write(t, key, value);
        }
        due("commit", x.commit(t), keys.length);
        x.flush();
    }

    private static void fourHundredPlaces() {
        OutboxHouse x = new OutboxHouse();
        for (int n = 0; n < 66; n++) {
            commitUnchecked(x, n, 0, 1, 2, 3, 4, 5);
        }
        x.begin();
        for (int key = 0; key < 5; key++) {
            x.write(0, key, -1);
        }
        due("396 and 5", x.commit(0), FULL);
        due("it is still open", x.read(0, 4), -1);
        due("its KEYS are LOCKED", x.key(4, 2), 1);
        due("nothing came", x.count(1), 396);
        due("log(396, 0)", x.log(396, 0), NONE);
        due("BAD comes first", x.commit(1), BAD);
        due("abort(0)", x.abort(0), 5);
        commitUnchecked(x, 77, 1, 2, 3, 4);
        due("396 and 4", x.count(1), 400);
        due("log(399, 1)", x.log(399, 1), 77);
        due("log(399, 4)", x.log(399, 4), 1);
        due("log(400, 0)", x.log(400, 0), NONE);
        x.begin();
        due("400 and none", x.commit(0), 0);
    }

    private static void placesGoOnBehindACut() {
        OutboxHouse x = new OutboxHouse();
        for (int n = 0; n < 100; n++) {
            commitUnchecked(x, n, 0, 1, 2, 4);
        }
        for (int n = 0; n < 10; n++) {
            x.flow(10);
        }
        due("cut()", x.cut(), 400);
        due("count(5)", x.count(5), 400);
        x.begin();
        x.write(0, 0, 1);
        due("400 ever", x.commit(0), FULL);
        due("whole()", x.whole(), 1);
        due("prefix(1)", x.prefix(1), 1);
    }

    private static void goneChangesGiveRoom() {
        OutboxHouse x = new OutboxHouse();
        for (int n = 0; n < 99; n++) {
            commitUnchecked(x, n, 0, 1, 2, 4);
        }
        x.begin();
        for (int key = 0; key < 4; key++) {
            x.write(0, key, 8);
        }
        due("commit(0)", x.commit(0), 4);
        x.begin();
        x.write(0, 5, 1);
        due("400 and 1", x.commit(0), FULL);
        due("crash(0)", x.crash(0), 4);
        commitUnchecked(x, 9, 5);
        due("the PLACE is told again", x.log(396, 1), 9);
        due("count(1)", x.count(1), 397);
    }

    private static void flowTenRounds() {
        OutboxHouse x = new OutboxHouse();
        for (int n = 0; n < 200; n++) {
            commitUnchecked(x, n, 0, 3);
        }
        due("ten times read, nine times delivered", x.flow(10), 360);
        due("count(6)", x.count(6), 40);
        due("count(3)", x.count(3), 400);
        due("flow(1)", x.flow(1), 40);
    }

    // ---- values of 32 bits

    /** Answers that refuse are values, too, and come back as such. */
    private static final int[] VALUES = {LOW, HIGH, LOW + 1, HIGH - 1, 0, -1, -2, -3, -9, 1, 1 << 16, -(1 << 16)};

    private static void valueComesBack(int value) {
        for (int key = 0; key < 6; key++) {
            House x = new House();
            int lane = key % 3;
            x.commitFlushed(500, key);
            x.begin();
            due("write", x.write(0, key, value), 1);
            due("read", x.read(0, key), value);
            due("commit(0)", x.commit(0), 1);
            due("log, not FLUSHED", x.log(1, 1), value);
            due("key(.., 0), not FLUSHED", x.key(key, 0), 500 + key);
            due("flush()", x.flush(), 1);
            due("key(.., 0)", x.key(key, 0), value);
            due("log", x.log(1, 1), value);
            x.begin();
            due("read by another", x.read(0, key), value);
            x.relay(2);
            due("letter", x.letter(lane, 1, 3), value);
            due("HELD", x.deliver(lane, 1, true), HELD);
            due("DONE", x.deliver(lane, 0, true), DONE);
            due("key(.., 3)", x.key(key, 3), value);
            due("key(.., 5)", x.key(key, 5), 0);
            x.save();
            due("key(.., 5)", x.key(key, 5), value);
            due("prefix(0)", x.prefix(0), 1);
            due("prefix(1)", x.prefix(1), 1);
            due("after crash(0)", x.crash(0), 0);
            due("key(.., 0)", x.key(key, 0), value);
            due("after crash(2)", x.crash(2), 0);
            due("key(.., 3)", x.key(key, 3), value);
        }
    }

    private static void sameValueIsAChange() {
        House x = new House();
        x.commitFlushed(-3, 3);
        due("0 over 0", x.key(3, 1), 1);
        x.commitFlushed(-3, 3);
        due("once more", x.key(3, 1), 2);
        due("flow(2)", x.flow(2), 2);
        due("key(3, 6)", x.key(3, 6), 2);
    }

    private static void latestValueCounts() {
        House x = new House();
        x.begin();
        for (int value : new int[] {HIGH, LOW, 5, LOW}) {
            due("write", x.write(0, 2, value), 1);
        }
        due("commit(0)", x.commit(0), 1);
        due("log(0, 1)", x.log(0, 1), LOW);
    }

    // ---- sentences about the source

    private static void lockedTillOver() {
        House x = new House();
        x.begin();
        x.begin();
        x.write(0, 1, 7);
        due("its own KEY", x.write(0, 1, 8), 1);
        due("by another", x.write(1, 1, 9), STATE);
        x.abort(0);
        due("after abort", x.write(1, 1, 9), 1);
        due("commit(1)", x.commit(1), 1);
        x.begin();
        due("not FLUSHED", x.write(0, 1, 9), STATE);
        x.flush();
        due("FLUSHED", x.write(0, 1, 9), 1);
        x.crash(0);
        x.begin();
        due("after a crash", x.write(0, 1, 9), 1);
    }

    /** A TRANSACTION at the place of one that is over has none of its KEYS. */
    private static void placeOfATransactionAnew() {
        House x = new House();
        x.begin();
        x.write(0, 1, 7);
        x.commit(0);
        due("begin()", x.begin(), 0);
        due("read(0, 1)", x.read(0, 1), 0);
        due("write(0, 1, 8)", x.write(0, 1, 8), STATE);
        due("abort(0)", x.abort(0), 0);
        due("key(1, 2)", x.key(1, 2), 2);
        x.begin();
        x.write(0, 2, 5);
        x.abort(0);
        x.begin();
        due("read(0, 2)", x.read(0, 2), 0);
        due("commit(0)", x.commit(0), 0);
    }

    private static void badBeforeState() {
        House x = Scene.BUSY.make();
        due("no such TRANSACTION, KEY is LOCKED", x.write(4, 3, 1), BAD);
        due("not open, KEY is LOCKED", x.write(1, 3, 1), BAD);
        due("not open, LOCKED by CHANGES", x.write(3, 4, 1), BAD);
        due("no such KEY", x.write(0, 6, 1), BAD);
        due("open, LOCKED", x.write(0, 3, 1), STATE);
    }

    private static void commitByKeyNumbers() {
        House x = new House();
        x.begin();
        for (int key = 5; key >= 0; key--) {
            x.write(0, key, 50 - key);
        }
        due("commit(0)", x.commit(0), 6);
        for (int place = 0; place < 6; place++) {
            due("KEY", x.log(place, 0), place);
            due("value", x.log(place, 1), 50 - place);
            due("ORDER", x.log(place, 2), 1);
            due("THE LAST", x.log(place, 4), place == 5 ? 1 : 0);
        }
    }

    private static void flushTakesAllBefore() {
        House x = new House();
        x.commitKeys(10, 0);
        x.commitKeys(20, 5, 1);
        due("log(2, 3)", x.log(2, 3), 0);
        due("count(2)", x.count(2), 0);
        due("flush()", x.flush(), 3);
        for (int place = 0; place < 3; place++) {
            due("log(.., 3)", x.log(place, 3), 1);
        }
        due("flush() again", x.flush(), 0);
        x.commitKeys(30, 1);
        due("log(3, 3)", x.log(3, 3), 0);
        due("log(2, 3)", x.log(2, 3), 1);
    }

    private static void crashKeepsWhatWasFlushed() {
        House x = Scene.BUSY.make();
        due("crash(0)", x.crash(0), 1);
        due("count(0)", x.count(0), 0);
        due("count(1)", x.count(1), 7);
        due("log(7, 0)", x.log(7, 0), NONE);
        due("log(6, 1)", x.log(6, 1), 31);
        for (int key = 0; key < 6; key++) {
            due("key(.., 2)", x.key(key, 2), 0);
        }
        due("letters are as they were", x.count(6), 7);
        due("HELD, too", x.count(10), 1);
        due("and POSITION", x.count(3), 3);
    }

    // ---- sentences about the relay and lanes

    private static void laneIsKeyModuloThree() {
        House x = relayed(1, 0, 1, 2, 3, 4, 5);
        for (int key = 0; key < 6; key++) {
            due("PLACE", x.letter(key % 3, key / 3, 0), key);
            due("KEY", x.letter(key % 3, key / 3, 1), key);
        }
    }

    private static void relayStopsAtUnflushed() {
        House x = new House();
        x.commitFlushed(10, 0);
        x.commitKeys(20, 1, 2);
        due("relay(20)", x.relay(20), 1);
        due("relay(20)", x.relay(20), 0);
        x.flush();
        due("relay(20)", x.relay(20), 2);
    }

    private static void firstMiddleLastLetterGoes() {
        House x = relayed(5, 1);
        due("lose(1, 4)", x.lose(1, 4), 4);
        due("deliver(1, 0, false)", x.deliver(1, 0, false), DONE);
        due("lose(1, 1)", x.lose(1, 1), 2);
        due("letter(1, 0, 0)", x.letter(1, 0, 0), 1);
        due("letter(1, 1, 0)", x.letter(1, 1, 0), 3);
        due("letter(1, 2, 0)", x.letter(1, 2, 0), NONE);
    }

    private static void cutIsWithoutTheMark() {
        House x = relayed(1, 0, 1, 2);
        x.deliver(0, 0, false);
        x.deliver(1, 0, false);
        x.save();
        x.ack(true);
        due("count(4)", x.count(4), 2);
        due("cut()", x.cut(), 2);
        due("below the MARK", x.log(1, 0), NONE);
        due("at the MARK", x.log(2, 0), 2);
        due("cut() again", x.cut(), 0);
    }

    private static void lettersOutliveACut() {
        House x = relayed(2, 0);
        x.deliver(0, 0, true);
        x.deliver(0, 1, true);
        x.save();
        x.ack(true);
        due("cut()", x.cut(), 2);
        due("letter(0, 1, 3)", x.letter(0, 1, 3), 20);
        due("deliver(0, 1, false)", x.deliver(0, 1, false), TWICE);
    }

    private static void ackMovesMarkAndPosition() {
        House x = relayed(1, 0, 1, 2);
        for (int lane = 0; lane < 3; lane++) {
            x.deliver(lane, 0, false);
        }
        x.save();
        due("crash(1)", x.crash(1), 3);
        due("not heard", x.ack(false), 3);
        due("count(3)", x.count(3), 0);
        due("count(4)", x.count(4), 0);
        due("heard", x.ack(true), 3);
        due("POSITION was less", x.count(3), 3);
        due("count(4)", x.count(4), 3);
        due("nothing is told again", x.relay(20), 0);
        due("crash(1) at the MARK", x.crash(1), 0);
    }

    private static void ackLeavesAPositionThatIsMore() {
        House x = relayed(1, 0, 1, 2);
        x.deliver(0, 0, false);
        x.save();
        due("ack(true)", x.ack(true), 1);
        due("count(3)", x.count(3), 3);
        due("crash(1)", x.crash(1), 2);
        due("count(3)", x.count(3), 1);
        due("ack(true) again", x.ack(true), 1);
        due("count(3)", x.count(3), 1);
    }

    // ---- sentences about the target

    private static void orderOneMoreLessMore() {
        House x = relayed(4, 2);
        due("one more than 0", x.deliver(2, 0, true), DONE);
        due("two more than 1", x.deliver(2, 2, true), HELD);
        due("as much as is DONE", x.deliver(2, 0, true), TWICE);
        due("one more than 1", x.deliver(2, 1, true), DONE);
        due("the HELD one followed", x.key(2, 4), 3);
        due("less by two", x.deliver(2, 0, true), TWICE);
        due("that was HELD", x.deliver(2, 2, true), TWICE);
        due("one more than 3", x.deliver(2, 3, true), DONE);
        due("count(9)", x.count(9), 3);
        due("count(8)", x.count(8), 4);
    }

    private static void heldFollowTillAGap() {
        House x = relayed(6, 0);
        due("ORDER 6", x.deliver(0, 5, true), HELD);
        due("ORDER 3", x.deliver(0, 2, true), HELD);
        due("ORDER 2", x.deliver(0, 1, true), HELD);
        due("ORDER 5", x.deliver(0, 4, true), HELD);
        due("ORDER 1", x.deliver(0, 0, true), DONE);
        due("up to the gap", x.key(0, 4), 3);
        due("key(0, 3)", x.key(0, 3), 30);
        due("count(10)", x.count(10), 2);
        due("ORDER 4", x.deliver(0, 3, true), DONE);
        due("key(0, 4)", x.key(0, 4), 6);
        due("key(0, 3)", x.key(0, 3), 60);
        due("count(10)", x.count(10), 0);
    }

    private static void saveNothing() {
        House x = relayed(1, 0);
        due("nothing is DONE", x.save(), 0);
        x.deliver(0, 0, true);
        due("save()", x.save(), 1);
        due("save() again", x.save(), 0);
        x.deliver(0, 0, true);
        due("TWICE is nothing to save", x.save(), 0);
    }

    private static void ackIsTheLeastPlaceMissing() {
        House x = relayed(1, 0, 1, 2, 3, 4, 5);
        for (int place : new int[] {5, 1, 2, 4}) {
            x.deliver(place % 3, place / 3, true);
            x.save();
            due("0 is missing", x.ack(false), 0);
        }
        x.deliver(0, 0, true);
        due("not on disk", x.count(13), 0);
        x.save();
        due("3 is missing", x.ack(false), 3);
        x.deliver(0, 1, true);
        x.save();
        due("none is missing", x.ack(false), 6);
    }

    private static void ackAfterTheTargetsCrash() {
        House x = relayed(2, 0);
        x.deliver(0, 0, true);
        x.save();
        x.deliver(0, 1, true);
        due("crash(2)", x.crash(2), 1);
        x.save();
        due("ack(false)", x.ack(false), 1);
        due("DONE once more", x.deliver(0, 1, true), DONE);
        x.save();
        due("ack(false)", x.ack(false), 2);
        due("DONE ever", x.count(8), 3);
    }

    private static void wholeIsAllOrNone() {
        House x = relayed(1, 0, 1, 2);
        due("none", x.whole(), 1);
        x.deliver(2, 0, true);
        x.save();
        due("THE LAST alone", x.whole(), 0);
        x.deliver(0, 0, true);
        x.save();
        due("two of three", x.whole(), 0);
        x.deliver(1, 0, true);
        due("not saved", x.whole(), 0);
        x.save();
        due("all", x.whole(), 1);
    }

    private static void wholeOfEachCommitByItself() {
        House x = new House();
        x.commitFlushed(10, 0, 1);
        x.commitFlushed(20, 2, 3);
        x.commitFlushed(30, 4, 5);
        x.relay(20);
        x.deliver(2, 0, true);
        x.deliver(0, 1, true);
        x.save();
        due("none, all, none", x.whole(), 1);
        x.deliver(0, 0, true);
        x.save();
        due("the first of the first", x.whole(), 0);
        x.deliver(1, 0, true);
        x.save();
        due("all, all, none", x.whole(), 1);
        x.deliver(2, 1, true);
        x.save();
        due("the last of the last", x.whole(), 0);
    }

    private static void wholeOfCommitsOfOne() {
        House x = relayed(3, 1);
        for (int i = 0; i < 3; i++) {
            x.deliver(1, i, true);
            x.save();
            due("whole()", x.whole(), 1);
        }
    }

    private static void theSource() {
        Check.test("promise 3, LOCKED till that is over", EdgesTest::lockedTillOver);
        Check.test("promise 2, the place of a TRANSACTION anew", EdgesTest::placeOfATransactionAnew);
        Check.test("promise 3, BAD comes before STATE", EdgesTest::badBeforeState);
        Check.test("promise 5, KEY by KEY by numbers", EdgesTest::commitByKeyNumbers);
        Check.test("promise 7, FLUSHED with all before them", EdgesTest::flushTakesAllBefore);
        Check.test("promise 8, what was FLUSHED stays", EdgesTest::crashKeepsWhatWasFlushed);
    }

    private static void theRelay() {
        Check.test("promise 11, LANE KEY modulo 3", EdgesTest::laneIsKeyModuloThree);
        Check.test("promise 11, if that was FLUSHED", EdgesTest::relayStopsAtUnflushed);
        Check.test("promise 14, the first, one between, the last", EdgesTest::firstMiddleLastLetterGoes);
        Check.test("promise 12, up to the MARK, without it", EdgesTest::cutIsWithoutTheMark);
        Check.test("promise 12, LETTERS outlive it", EdgesTest::lettersOutliveACut);
        Check.test("promise 17, POSITION, too, if that is less", EdgesTest::ackMovesMarkAndPosition);
        Check.test("promise 17, POSITION that is more", EdgesTest::ackLeavesAPositionThatIsMore);
    }

    private static void theTarget() {
        Check.test("promise 13, ORDER one more, less, more", EdgesTest::orderOneMoreLessMore);
        Check.test("promise 13, those HELD that follow", EdgesTest::heldFollowTillAGap);
        Check.test("promise 16, nothing to save", EdgesTest::saveNothing);
        Check.test("promise 17, the least PLACE", EdgesTest::ackIsTheLeastPlaceMissing);
        Check.test("promise 17, after a crash of the TARGET", EdgesTest::ackAfterTheTargetsCrash);
        Check.test("promise 19, all or none", EdgesTest::wholeIsAllOrNone);
        Check.test("promise 19, of each COMMIT", EdgesTest::wholeOfEachCommitByItself);
        Check.test("promise 19, COMMITS of one CHANGE", EdgesTest::wholeOfCommitsOfOne);
    }

    private static void allowedEnds() {
        Check.test("KEYS 0 and 5", EdgesTest::keysOfEachEnd);
        Check.test("TRANSACTIONS 0 and 3", EdgesTest::transactionsOfEachEnd);
        Check.test("LANES 0 and 2", EdgesTest::lanesOfEachEnd);
        Check.test("promise 11, n 1 and 20", EdgesTest::relayOneAndTwenty);
        Check.test("promise 18, n 1", EdgesTest::flowOneRound);
        Check.test("promise 18, n rounds", EdgesTest::flowRoundsAreCounted);
        Check.test("promise 18, n 10", EdgesTest::flowTenRounds);
        Check.test("the first and the last what, which, house", EdgesTest::whatsOfEachEnd);
    }

    private static void empty() {
        Check.test("an empty log", EdgesTest::emptyLog);
        Check.test("a log that a crash empties", EdgesTest::emptyAgainByCrash);
        Check.test("a log that is CUT whole", EdgesTest::emptyAgainByCut);
        Check.test("an empty LANE", EdgesTest::emptyLane);
        Check.test("a LANE that is empty again", EdgesTest::emptyLaneAgain);
        Check.test("promise 5, without CHANGES", EdgesTest::commitWithoutChanges);
        Check.test("promise 5, of refused writes", EdgesTest::commitOfRefusedWrites);
        Check.test("promise 6, without writes", EdgesTest::abortWithoutWrites);
    }

    private static void full() {
        Check.test("promise 2, 4 TRANSACTIONS", EdgesTest::fourTransactions);
        Check.test("promise 11, 40 LETTERS in a LANE", EdgesTest::fortyLetters);
        Check.test("promise 13, room in a full LANE", EdgesTest::roomInAFullLane);
        Check.test("promise 14, room in a full LANE", EdgesTest::roomByLoss);
        Check.test("promise 18, 120 LETTERS", EdgesTest::allLanesAreFull);
        Check.test("promise 18, 40 LETTERS in a LANE", EdgesTest::flowFillsLanes);
        Check.test("promise 13, 8 HELD", EdgesTest::eightHeld);
        Check.test("promise 13, 8 HELD in all", EdgesTest::eightHeldInAll);
        Check.test("promise 13, each once", EdgesTest::heldOnceEach);
        Check.test("promise 13, each once, by another LETTER", EdgesTest::heldOnceEachByAnotherLetter);
        Check.test("promise 13, the next one needs no room", EdgesTest::theNextOneNeedsNoRoom);
        Check.test("promise 8, nothing is HELD", EdgesTest::roomAfterTheTargetsCrash);
        Check.test("promise 8, HELD outlives other crashes", EdgesTest::heldOutlivesOtherCrashes);
        Check.test("promise 5, 400 PLACES", EdgesTest::fourHundredPlaces);
        Check.test("promise 5, 400 PLACES ever", EdgesTest::placesGoOnBehindACut);
        Check.test("promise 5, 400 PLACES as they go now", EdgesTest::goneChangesGiveRoom);
    }

    private static void values() {
        for (int value : VALUES) {
            Check.test("value " + value, () -> valueComesBack(value));
        }
        Check.test("promise 5, a value that was there", EdgesTest::sameValueIsAChange);
        Check.test("promise 5, the latest value", EdgesTest::latestValueCounts);
    }

    public static void main(String[] args) {
        allowedEnds();
        empty();
        full();
        values();
        theSource();
        theRelay();
        theTarget();
        Check.end();
    }
}
