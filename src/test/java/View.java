import java.util.ArrayList;
import java.util.List;
import java.util.function.BiConsumer;

/**
 * What can be seen of a house, part by part: each part looks at a house of its own, so that none is asked too
 * many calls. The later parts change the house, to see what only later answers tell.
 */
enum View {
    KEYS(View::keys),
    READS(View::reads),
    LOG(View::log),
    LANE_0((x, seen) -> lane(x, 0, seen)),
    LANE_1((x, seen) -> lane(x, 1, seen)),
    LANE_2((x, seen) -> lane(x, 2, seen)),
    JUDGED(View::judged),
    WRITES(View::writes),
    COMMITS(View::commits),
    ABORTS(View::aborts),
    SOURCE_CRASH(View::sourceCrash),
    RELAY_CRASH(View::relayCrash),
    TARGET_CRASH(View::targetCrash),
    DELIVERED(View::delivered),
    SAVED(View::saved),
    FLOWN(View::flown);

    private final BiConsumer<House, List<Integer>> look;

    View(BiConsumer<House, List<Integer>> look) {
        this.look = look;
    }

    List<Integer> of(House x) {
        List<Integer> seen = new ArrayList<>();
        look.accept(x, seen);
        return seen;
    }

    /** No part above: some calls, that are not refused, change counts alone. */
    static List<Integer> counts(House x) {
        List<Integer> seen = new ArrayList<>();
        for (int what = 0; what < 14; what++) {
            seen.add(x.count(what));
        }
        return seen;
    }

    private static void keys(House x, List<Integer> seen) {
        for (int key = 0; key < 6; key++) {
            for (int what = 0; what < 7; what++) {
                seen.add(x.key(key, what));
            }
        }
    }

    private static void reads(House x, List<Integer> seen) {
        for (int t = 0; t < 4; t++) {
            for (int key = 0; key < 6; key++) {
                seen.add(x.read(t, key));
            }
        }
    }

    private static void log(House x, List<Integer> seen) {
        int end = x.count(1);
        for (int place = 0; place <= end; place++) {
            for (int what = 0; what < 5; what++) {
                seen.add(x.log(place, what));
            }
        }
    }

    private static void lane(House x, int lane, List<Integer> seen) {
        for (int i = 0; i < 40; i++) {
            for (int what = 0; what < 4; what++) {
                seen.add(x.letter(lane, i, what));
            }
        }
    }

    private static void judged(House x, List<Integer> seen) {
        seen.add(x.whole());
        seen.add(x.prefix(0));
        seen.add(x.prefix(1));
    }

    private static void writes(House x, List<Integer> seen) {
        for (int t = 0; t < 5; t++) {
            seen.add(x.begin());
        }
        for (int t = 0; t < 4; t++) {
            for (int key = t; key < 6; key++) {
                seen.add(x.write(t, key, 1000 + t));
            }
        }
        reads(x, seen);
        commits(x, seen);
    }

    private static void commits(House x, List<Integer> seen) {
        for (int t = 0; t < 4; t++) {
            seen.add(x.commit(t));
        }
        seen.add(x.flush());
        keys(x, seen);
    }

    private static void aborts(House x, List<Integer> seen) {
        for (int t = 0; t < 4; t++) {
            seen.add(x.abort(t));
        }
        seen.add(x.flush());
        keys(x, seen);
    }

    private static void sourceCrash(House x, List<Integer> seen) {
        seen.add(x.crash(0));
        seen.add(x.begin());
        keys(x, seen);
        x.commitFlushed(5000, 4);
        log(x, seen);
    }

    private static void relayCrash(House x, List<Integer> seen) {
        seen.add(x.crash(1));
        seen.add(x.relay(20));
        seen.add(x.count(3));
        lane(x, 0, seen);
    }

    private static void targetCrash(House x, List<Integer> seen) {
        seen.add(x.crash(2));
        keys(x, seen);
        delivered(x, seen);
    }

    private static void delivered(House x, List<Integer> seen) {
        for (int lane = 2; lane >= 0; lane--) {
            for (int i = 40; i >= 0; i--) {
                seen.add(x.deliver(lane, i, false));
            }
        }
        keys(x, seen);
    }

    private static void saved(House x, List<Integer> seen) {
        seen.add(x.save());
        seen.add(x.ack(true));
        seen.add(x.cut());
        judged(x, seen);
        keys(x, seen);
    }

    private static void flown(House x, List<Integer> seen) {
        seen.add(x.flow(1));
        seen.add(x.flow(10));
        seen.add(x.cut());
        keys(x, seen);
    }
}
