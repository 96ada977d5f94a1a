import java.util.ArrayList;
import java.util.List;

/**
 * All that an object tells of what it holds. An object is good for 512 calls, so it is asked in
 * parts, each on an object of its own that is not used any more then.
 */
final class State {
    static final int NODES = 0;
    static final int LINKS = 1;
    static final int VALUES = 2;
    static final int LATEST = 3;
    static final int PARTS = 4;

    /** Keys that tests put; others show by how many are known. */
    private static final int KEYS = 32;
    private static final int KEY_GAP = 100;
    private static final int STEPS = 60;

    private State() {
    }

    static List<Integer> part(ShiftRing x, int part) {
        List<Integer> all = new ArrayList<>();
        int nodes = x.count(0);
        if (part == NODES) {
            addNodes(all, x, nodes);
        } else if (part == LINKS) {
            addLinks(all, x, nodes);
        } else if (part == VALUES) {
            addValues(all, x, nodes);
        } else {
            addLatest(all, x);
        }
        return all;
    }

    private static void addNodes(List<Integer> all, ShiftRing x, int nodes) {
        for (int what : new int[] {0, 1, 2, 3, 4, 5, 6, 7, 9, 11, 12, 13, 14, 15}) {
            all.add(x.count(what));
        }
        for (int n = 0; n < nodes; n++) {
            for (int what : new int[] {0, 1, 2, 3, 4, 5, 6, 7, 8, 9, 11}) {
                all.add(x.node(n, what));
            }
        }
        all.add(x.sample(true, 0));
        all.add(x.sample(true, 6));
        all.add(x.sample(false, 4));
        for (int n = 0; n < nodes; n++) {
            all.add(x.spot(n, 0));
        }
        all.add(x.copies(1));
    }

    private static void addLinks(List<Integer> all, ShiftRing x, int nodes) {
        for (int n = 0; n < nodes; n++) {
            for (int k = 0; k < 8; k++) {
                all.add(x.link(n, k, true));
            }
            for (int k = 0; k < 3; k++) {
                all.add(x.link(n, k, false));
            }
        }
    }

    private static void addValues(List<Integer> all, ShiftRing x, int nodes) {
        for (int key = 0; key < KEYS * KEY_GAP; key += KEY_GAP) {
            int newest = x.about(key, 1);
            int older = x.about(key, 2);
            all.add(newest);
            all.add(older);
            all.add(x.about(key, 3));
            for (int n = 0; n < nodes; n++) {
                if (((newest | older) >> n & 1) == 1) {
                    all.add(x.held(n, key, 0));
                    all.add(x.held(n, key, 1));
                }
            }
        }
        all.add(x.count(11));
        all.add(x.count(13));
    }

    private static void addLatest(List<Integer> all, ShiftRing x) {
        for (int what = 0; what <= 8; what++) {
            all.add(x.latest(what));
        }
        for (int k = 0; k <= 4; k++) {
            all.add(x.why(k));
        }
        int steps = x.latest(5);
        for (int k = 0; k <= steps; k += steps < STEPS ? 1 : 4) {
            for (int what = 0; what <= 3; what++) {
                all.add(x.step(k, what));
            }
        }
    }
}
