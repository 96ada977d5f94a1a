/** The promises one by one: what the document says of ordinary inputs, of edges, of wrong inputs. */
public final class PromiseTest {
    private static final Class<?> INDEX = Check.INDEX;
    private static final Class<?> ARGUMENT = Check.ARGUMENT;
    private static final Class<?> STATE = Check.STATE;
    private static final Class<?> WHAT = Check.WHAT;
    private static final int[] NO_PLACES = {-1, 4096, Integer.MIN_VALUE, Integer.MAX_VALUE};
    private static final int[] NO_NODES = {-1, 9, 24, Integer.MIN_VALUE, Integer.MAX_VALUE};

    private static void due(int want, Check.Call call) {
        Check.due(want, call);
    }

    private static void refused(Class<?> want, Check.Call call) {
        Check.refused(want, call);
    }

    private static void p1() {
        ShiftRing x = new ShiftRing();
        int[] counts = {0, 0, 4, 4, 6, 0, 0, -1, -1, 0, -1, 0, 0, 0, 0, -1, -1};
        for (int w = 0; w < counts.length; w++) {
            int what = w;
            due(counts[w], () -> x.count(what));
        }
        due(2, () -> x.copies(1));
        due(-1, () -> x.owner(0));
        due(-1, () -> x.host(0));
        due(0, () -> x.mendAll());
        due(-1, () -> ShiftRing.NONE);
        refused(INDEX, () -> x.node(0, 0));
    }

    private static void p2() {
        ShiftRing x = new ShiftRing();
        due(0, () -> x.join(4095));
        due(1, () -> x.join(0));
        due(1, () -> x.node(1, 1));
        due(2, () -> x.node(1, 4));
        due(0, () -> x.link(1, 0, false));
        due(0, () -> x.node(0, 3));
        for (int p : NO_PLACES) {
            refused(ARGUMENT, () -> x.join(p));
        }
        refused(STATE, () -> x.join(4095));
        x.down(0);
        refused(STATE, () -> x.join(4095));
        due(2, () -> x.count(0));
        ShiftRing f = Rings.full();
        due(24, () -> f.count(0));
        refused(STATE, () -> f.join(5));
        refused(ARGUMENT, () -> f.join(4096));
        f.down(3);
        refused(STATE, () -> f.join(5));
        due(24, () -> f.count(0));
    }

    private static void p3() {
        ShiftRing x = Rings.four();
        due(3, () -> x.down(1));
        due(0, () -> x.node(1, 1));
        due(3, () -> x.node(0, 3));
        due(1, () -> x.link(0, 0, false));
        due(3, () -> x.node(1, 3));
        refused(STATE, () -> x.down(1));
        due(3, () -> x.count(1));
        for (int n : NO_NODES) {
            refused(INDEX, () -> x.down(n));
        }
    }

    private static void p4() {
        ShiftRing x = Rings.four();
        x.down(1);
        x.down(2);
        x.turn(16);
        x.degree(1);
        due(3, () -> x.up(1));
        due(16, () -> x.node(1, 2));
        due(2, () -> x.node(1, 3));
        due(1, () -> x.node(1, 4));
        due(3, () -> x.link(1, 0, false));
        due(0, () -> x.link(1, 1, false));
        due(4, () -> x.node(0, 2));
        refused(STATE, () -> x.up(1));
        refused(STATE, () -> x.up(0));
        for (int n : NO_NODES) {
            refused(INDEX, () -> x.up(n));
        }
    }

    private static void p5() {
        ShiftRing x = new ShiftRing();
        x.join(0);
        x.join(1024);
        x.join(2048);
        x.join(3072);
        due(6, () -> x.mend(0));
        due(0, () -> x.mend(0));
        due(0, () -> x.mend(3));
        x.turn(2);
        due(5, () -> x.mend(3));
        due(2, () -> x.node(3, 2));
        x.degree(2);
        due(2, () -> x.mend(3));
        x.down(3);
        refused(STATE, () -> x.mend(3));
        for (int n : NO_NODES) {
            refused(INDEX, () -> x.mend(n));
        }
    }

    private static void p6() {
        ShiftRing x = new ShiftRing();
        x.join(0);
        x.join(1024);
        x.join(2048);
        x.join(3072);
        due(15, () -> x.mendAll());
        due(0, () -> x.mendAll());
        x.down(2);
        due(-1, () -> x.node(2, 7));
        int stale = x.node(0, 7) + x.node(1, 7) + x.node(3, 7);
        due(stale, () -> x.mendAll());
        due(3, () -> x.node(2, 3));
        due(2, () -> x.node(0, 3));
    }

    private static void p7() {
        ShiftRing x = Rings.four();
        due(4, () -> x.turn(2));
        due(2, () -> x.turn(8));
        due(8, () -> x.turn(16));
        due(16, () -> x.turn(16));
        due(16, () -> x.count(2));
        due(4, () -> x.node(0, 2));
        for (int b : new int[] {0, 1, 3, 5, 6, 12, 32, -2, -4, Integer.MIN_VALUE, Integer.MAX_VALUE}) {
            refused(ARGUMENT, () -> x.turn(b));
        }
        due(16, () -> x.count(2));
    }

    private static void p8() {
        ShiftRing x = Rings.four();
        due(4, () -> x.degree(1));
        due(1, () -> x.degree(8));
        due(8, () -> x.count(3));
        due(4, () -> x.node(0, 4));
        for (int d : new int[] {0, 9, -1, Integer.MIN_VALUE, Integer.MAX_VALUE}) {
            refused(ARGUMENT, () -> x.degree(d));
        }
        due(8, () -> x.count(3));
        ShiftRing f = Rings.full();
        f.degree(8);
        f.mend(0);
        due(8, () -> f.node(0, 4));
        due(4, () -> f.node(1, 4));
    }

    private static void p9() {
        ShiftRing x = Rings.two();
        due(0, () -> x.spot(0, 99));
        due(99, () -> x.spot(0, 7));
        for (int s : new int[] {-1, 100, Integer.MIN_VALUE, Integer.MAX_VALUE}) {
            refused(ARGUMENT, () -> x.spot(0, s));
            refused(INDEX, () -> x.spot(2, s));
        }
        x.down(0);
        due(7, () -> x.spot(0, 8));
        for (int n : NO_NODES) {
            refused(INDEX, () -> x.spot(n, 0));
        }
    }

    private static void p10() {
        ShiftRing x = Rings.four();
        due(0, () -> x.lookup(0, 0, false));
        due(1, () -> x.lookup(0, 1, false));
        due(1, () -> x.lookup(0, 1024, true));
        due(2, () -> x.lookup(0, 1025, true));
        due(0, () -> x.lookup(2, 4095, true));
        for (int p : NO_PLACES) {
            refused(ARGUMENT, () -> x.lookup(0, p, true));
            refused(INDEX, () -> x.lookup(4, p, true));
        }
        for (int n : NO_NODES) {
            refused(INDEX, () -> x.lookup(n, 0, true));
        }
        x.down(1);
        refused(STATE, () -> x.lookup(1, 0, true));
        refused(ARGUMENT, () -> x.lookup(1, 4096, true));
        due(-2, () -> Rings.cut().lookup(0, 0, true));
        due(-2, () -> Rings.cut().lookup(0, 5, false));
        due(-3, () -> Rings.losing().lookup(0, 2176, false));
        due(-3, () -> Rings.losing().lookup(3, 2176, false));
        due(0, () -> Rings.losing().lookup(2, 2176, false));
        due(-3, () -> Rings.losingBest().lookup(1, 2688, true));
    }

    private static void p11() {
        ShiftRing n = new ShiftRing();
        for (int w = 0; w <= 8; w++) {
            int what = w;
            due(w == 7 ? -1 : 0, () -> n.latest(what));
        }
        ShiftRing x = Rings.four();
        x.spot(1, 30);
        x.lookup(0, 2000, false);
        latestIs(x, 1, 6, 0, 0, 1, 6, 0, 1, 31);
        x.lookup(0, 2000, true);
        latestIs(x, 1, 1, 0, 0, 1, 1, 5, 1, 31);
        x.spot(1, 0);
        x.down(2);
        x.takes(3, 5);
        x.sample(false, 0);
        x.count(8);
        refused(STATE, () -> x.lookup(2, 5, true));
        refused(ARGUMENT, () -> x.lookup(0, -5, true));
        latestIs(x, 1, 1, 0, 0, 1, 1, 5, 1, 31);
        x.lookup(0, 0, true);
        latestIs(x, 0, 0, 0, 0, 1, 0, 6, 0, 0);
        x.get(3, 100);
        latestIs(x, 1, 1, 0, 0, 1, 1, 5, 0, 1);
        x.put(0, 100, 1);
        latestIs(x, 0, 0, 0, 0, 1, 0, 6, 0, 0);
        ShiftRing l = Rings.losing();
        l.lookup(0, 2176, false);
        latestIs(l, 80, 160, 0, 40, 0, 200, 0, 0, 80);
        ShiftRing c = Rings.cut();
        c.lookup(0, 5, true);
        latestIs(c, 0, 0, 0, 0, 0, 0, 0, 0, 0);
        for (int w : new int[] {-1, 9, Integer.MIN_VALUE, Integer.MAX_VALUE}) {
            refused(WHAT, () -> x.latest(w));
            refused(WHAT, () -> n.latest(w));
        }
    }

    private static void latestIs(ShiftRing x, int... all) {
        for (int w = 0; w < all.length; w++) {
            int what = w;
            due(all[w], () -> x.latest(what));
        }
    }

    private static void stepIs(ShiftRing x, int k, int... all) {
        for (int w = 0; w < all.length; w++) {
            int what = w;
            due(all[w], () -> x.step(k, what));
        }
    }

    private static void p12() {
        ShiftRing x = Rings.four();
        stepIs(x, 0, -1, -1, -1, -1);
        x.lookup(0, 2000, false);
        stepIs(x, 0, 0, 0, 6, 0);
        stepIs(x, 1, 0, 1, 5, 0);
        stepIs(x, 4, 0, 125, 2, 0);
        stepIs(x, 5, 0, 500, 1, 0);
        stepIs(x, 6, -1, -1, -1, -1);
        stepIs(x, -1, -1, -1, -1, -1);
        stepIs(x, Integer.MAX_VALUE, -1, -1, -1, -1);
        stepIs(x, Integer.MIN_VALUE, -1, -1, -1, -1);
        ShiftRing l = Rings.losing();
        l.lookup(0, 2176, false);
        stepIs(l, 0, 0, 2304, 6, 2);
        stepIs(l, 1, 3, 1792, 6, 0);
        stepIs(l, 2, 0, 3074, 5, 0);
        stepIs(l, 3, 0, 8, 4, 0);
        stepIs(l, 4, 0, 34, 3, 0);
        stepIs(l, 5, 0, 136, 2, 2);
        stepIs(l, 200, -1, -1, -1, -1);
        x.degree(1);
        x.mendAll();
        x.lookup(0, 2000, true);
        stepIs(x, 0, 0, 500, 1, 0);
        stepIs(x, 1, 0, 2000, 0, 1);
        stepIs(x, 2, -1, -1, -1, -1);
        x.turn(2);
        x.lookup(0, 2000, true);
        stepIs(x, 0, 0, 1000, 1, 2);
        for (int w : new int[] {-1, 4, Integer.MIN_VALUE, Integer.MAX_VALUE}) {
            refused(WHAT, () -> x.step(0, w));
            refused(WHAT, () -> x.step(999, w));
        }
    }

    private static void p13() {
        ShiftRing x = Rings.four();
        due(-1, () -> x.why(0));
        x.lookup(0, 2000, true);
        due(-1, () -> x.why(0));
        ShiftRing c = Rings.cut();
        c.lookup(0, 5, true);
        int[] all = {0, 3, 2, 1, -1};
        for (int k = 0; k < all.length; k++) {
            int at = k;
            due(all[k], () -> c.why(at));
        }
        for (int k : new int[] {-1, 8, 9, Integer.MIN_VALUE, Integer.MAX_VALUE}) {
            due(-1, () -> c.why(k));
        }
        c.mend(0);
        due(3, () -> c.why(1));
        c.lookup(0, 5, true);
        due(-1, () -> c.why(0));
        due(-1, () -> c.why(1));
        ShiftRing l = Rings.losing();
        l.lookup(0, 2176, false);
        due(-1, () -> l.why(0));
    }

    private static void p14() {
        ShiftRing x = Rings.four();
        due(0, () -> x.owner(0));
        due(1, () -> x.owner(1));
        due(1, () -> x.owner(1024));
        due(2, () -> x.owner(1025));
        due(0, () -> x.owner(4095));
        x.down(0);
        due(1, () -> x.owner(3073));
        for (int p : NO_PLACES) {
            refused(ARGUMENT, () -> x.owner(p));
        }
        due(-1, () -> new ShiftRing().owner(0));
    }

    private static void p15() {
        ShiftRing x = Rings.four();
        nodeIs(x, 1, 1024, 1, 4, 3, 4, 13, 13, 0, 2, 1024, 0, 1024);
        x.turn(2);
        x.degree(1);
        x.mend(1);
        nodeIs(x, 1, 1024, 1, 2, 3, 1, 13, 13, 0, 2, 1024);
        x.down(1);
        nodeIs(x, 1, 1024, 0, 2, 3, 1, 13, 13, -1, -1, -1, -1, -1);
        nodeIs(x, 0, 0, 1, 4, 3, 4, 14, 14);
        due(2, () -> x.node(0, 8));
        due(2048, () -> x.node(0, 11));
        due(2048, () -> x.node(2, 9));
        ShiftRing c = Rings.cut();
        nodeIs(c, 0, 0, 1, 4, 3, 4, 14, 14, 6, -1, 4096, 0, -1);
        ShiftRing one = Rings.at(7);
        nodeIs(one, 0, 7, 1, 4, 0, 1, 0, 0, 0, 0, 4096, 0, 4096);
        ShiftRing t = Rings.two();
        due(64, () -> t.node(0, 10));
        due(64, () -> t.node(1, 10));
        ShiftRing hinge = new ShiftRing();
        hinge.degree(1);
        hinge.join(100);
        hinge.join(400);
        due(2, () -> hinge.node(0, 6));
        due(0, () -> hinge.node(0, 5));
        due(1, () -> hinge.node(1, 5));
        for (int w : new int[] {-1, 12, Integer.MIN_VALUE, Integer.MAX_VALUE}) {
            refused(WHAT, () -> x.node(0, w));
            refused(INDEX, () -> x.node(4, w));
        }
        for (int n : NO_NODES) {
            refused(INDEX, () -> x.node(n, 0));
        }
    }

    private static void nodeIs(ShiftRing x, int node, int... all) {
        for (int w = 0; w < all.length; w++) {
            int what = w;
            due(all[w], () -> x.node(node, what));
        }
    }

    private static void p16() {
        ShiftRing x = Rings.at(100, 300, 1300, 2000, 4000);
        int[] successors = {1, 2, 3, -1};
        int[] pointers = {1, 2, 3, 4, -1};
        for (int k = 0; k < 4; k++) {
            int at = k;
            due(successors[k], () -> x.link(0, at, false));
        }
        // 100 times 4 is 400: the last one back from there is node 1
        for (int k = 0; k < 5; k++) {
            int at = k;
            due(pointers[k], () -> x.link(0, at, true));
        }
        // 300 times 4 is 1200; 1300 times 4 is 1104 round: node 1 for both; 2000 times 4 is 3904
        due(1, () -> x.link(1, 0, true));
        due(1, () -> x.link(2, 0, true));
        due(3, () -> x.link(3, 0, true));
        due(4, () -> x.link(3, 1, true));
        due(0, () -> x.link(3, 2, true));
        for (int k : new int[] {-1, 8, Integer.MIN_VALUE, Integer.MAX_VALUE}) {
            due(-1, () -> x.link(0, k, false));
            due(-1, () -> x.link(0, k, true));
        }
        // a hinge exactly at the place times the base, and one that is all round back
        ShiftRing y = Rings.at(500, 2000);
        due(1, () -> y.link(0, 0, true));
        ShiftRing z = Rings.at(1030, 3000);
        due(1, () -> z.link(0, 0, true));
        for (int n : NO_NODES) {
            refused(INDEX, () -> x.link(n, 0, true));
        }
    }

    private static void p17() {
        ShiftRing x = new ShiftRing();
        int[][] letters = {{2, 0, 1, 1, 1, 1, 1, 0, 1, 0, 0, 0, 1}, {4, 1, 3, 3, 1, 0, 1}, {8, 3, 7, 2, 1},
            {16, 7, 13, 1}};
        for (int[] row : letters) {
            x.turn(row[0]);
            for (int k = 1; k < row.length; k++) {
                int at = k - 1;
                due(row[k], () -> x.letter(2001, at));
            }
            due(-1, () -> x.letter(2001, row.length - 1));
            due(-1, () -> x.letter(2001, -1));
            due(-1, () -> x.letter(2001, Integer.MAX_VALUE));
            due(-1, () -> x.letter(2001, Integer.MIN_VALUE));
            due(row[0] - 1, () -> x.letter(4095, 0));
        }
        for (int p : NO_PLACES) {
            refused(ARGUMENT, () -> x.letter(p, 0));
            refused(ARGUMENT, () -> x.letter(p, 99));
        }
    }

    private static void p18() {
        ShiftRing x = new ShiftRing();
        due(5, () -> x.overlap(500, 2000));
        due(6, () -> x.overlap(2000, 2000));
        due(6, () -> x.overlap(0, 0));
        // 000001 and 100000 (base 4): one letter; 111111 and 111112: five; 000000 and 333333: none
        due(1, () -> x.overlap(1, 1024));
        due(5, () -> x.overlap(1365, 1366));
        due(0, () -> x.overlap(0, 4095));
        x.turn(2);
        due(12, () -> x.overlap(5, 5));
        due(11, () -> x.overlap(0, 1));
        x.turn(16);
        due(2, () -> x.overlap(0x123, 0x234));
        due(3, () -> x.overlap(0x123, 0x123));
        for (int p : NO_PLACES) {
            refused(ARGUMENT, () -> x.overlap(p, 0));
            refused(ARGUMENT, () -> x.overlap(0, p));
        }
    }

    private static void p19() {
        ShiftRing x = new ShiftRing();
        due(500, () -> x.shifted(500, 2000, 0));
        due(2000, () -> x.shifted(500, 2000, 1));
        due(-1, () -> x.shifted(500, 2000, 2));
        due(77, () -> x.shifted(77, 77, 0));
        due(-1, () -> x.shifted(77, 77, 1));
        x.turn(16);
        due(0x237, () -> x.shifted(0x123, 0x789, 1));
        due(0x378, () -> x.shifted(0x123, 0x789, 2));
        due(0x789, () -> x.shifted(0x123, 0x789, 3));
        due(-1, () -> x.shifted(0x123, 0x789, 4));
        due(0x239, () -> x.shifted(0x123, 0x239, 1));
        for (int k : new int[] {-1, Integer.MIN_VALUE, Integer.MAX_VALUE}) {
            due(-1, () -> x.shifted(1, 2, k));
        }
        for (int p : NO_PLACES) {
            refused(ARGUMENT, () -> x.shifted(p, 0, 0));
            refused(ARGUMENT, () -> x.shifted(0, p, -1));
        }
    }

    private static void p20() {
        ShiftRing x = Rings.four();
        due(500, () -> x.start(0, 2000));
        due(2000, () -> x.start(1, 2000));
        due(2548, () -> x.start(2, 2000));
        due(0, () -> x.start(0, 0));
        // a short arc: 22, 23, 30 (base 4) against keys that begin with 23, 22, 33, 00, 10
        ShiftRing s = Rings.at(10, 13, 2000);
        due(11, () -> s.start(0, 3000));
        due(10, () -> s.start(0, 2800));
        due(11, () -> s.start(0, 4095));
        due(12, () -> s.start(0, 0));
        due(10, () -> s.start(0, 1024));
        x.turn(16);
        due(0x07d, () -> x.start(0, 0x7d0));
        for (int p : NO_PLACES) {
            refused(ARGUMENT, () -> x.start(0, p));
            refused(INDEX, () -> x.start(4, p));
        }
        for (int n : NO_NODES) {
            refused(INDEX, () -> x.start(n, 0));
        }
        x.down(1);
        refused(STATE, () -> x.start(1, 0));
        refused(ARGUMENT, () -> x.start(1, 4096));
        refused(STATE, () -> Rings.cut().start(0, 0));
        refused(ARGUMENT, () -> Rings.cut().start(0, 4096));
        due(5, () -> Rings.at(7).start(0, 5));
    }

    private static void p21() {
        ShiftRing x = Rings.two();
        due(0, () -> x.nearest(64));
        due(1, () -> x.nearest(2112));
        due(0, () -> x.nearest(0));
        due(0, () -> x.nearest(2048));
        for (int p : NO_PLACES) {
            refused(ARGUMENT, () -> x.nearest(p));
        }
        due(-1, () -> new ShiftRing().nearest(0));
        due(-1, () -> Rings.cut().nearest(0));
        // node 0 does not know of node 1, so only node 1 finds itself
        ShiftRing s = new ShiftRing();
        s.join(0);
        s.join(2048);
        due(-1, () -> s.nearest(64));
        due(1, () -> s.nearest(2048));
    }

    private static void p22() {
        ShiftRing x = Rings.four();
        due(0, () -> x.far(2, 2));
        due(1, () -> x.far(0, 3));
        ShiftRing s = new ShiftRing();
        s.join(0);
        s.join(2048);
        due(1, () -> s.far(1, 0));
        due(-1, () -> s.far(0, 1));
        // each node knows three behind it and little more: a long way round
        due(bareFull().count(5), () -> farthest());
        s.down(1);
        refused(STATE, () -> s.far(0, 1));
        refused(STATE, () -> s.far(1, 0));
        refused(STATE, () -> s.far(1, 1));
        for (int n : NO_NODES) {
            refused(INDEX, () -> s.far(n, 1));
            refused(INDEX, () -> s.far(1, n));
        }
    }

    private static ShiftRing bareFull() {
        ShiftRing x = Rings.full();
        x.degree(1);
        x.mendAll();
        return x;
    }

    private static int farthest() {
        int most = 0;
        for (int a = 0; a < 24; a++) {
            ShiftRing x = bareFull();
            for (int b = 0; b < 24; b++) {
                most = Math.max(most, x.far(a, b));
            }
        }
        return most;
    }

    private static void p23() {
        ShiftRing x = Rings.four();
        due(3, () -> x.apart(0, 1));
        x.down(2);
        due(2, () -> x.apart(0, 1));
        due(1, () -> Rings.two().apart(0, 1));
        ShiftRing s = new ShiftRing();
        s.join(0);
        s.join(2048);
        due(0, () -> s.apart(0, 1));
        due(1, () -> s.apart(1, 0));
        refused(ARGUMENT, () -> x.apart(1, 1));
        refused(ARGUMENT, () -> x.apart(2, 2));
        refused(STATE, () -> x.apart(2, 1));
        refused(STATE, () -> x.apart(1, 2));
        for (int n : NO_NODES) {
            refused(INDEX, () -> x.apart(n, 1));
            refused(INDEX, () -> x.apart(1, n));
            refused(INDEX, () -> x.apart(n, n));
        }
    }

    private static void p24() {
        ShiftRing x = Rings.two();
        int[] best = {62, 62, 0, 0, 0, 1, 62, 1};
        int[] plain = {62, 217, 0, 0, 0, 1, 62, 1};
        sampleIs(x, true, best);
        sampleIs(x, false, plain);
        x.spot(1, 10);
        best[6] = 62 * 11;
        best[7] = 11;
        sampleIs(x, true, best);
        // an old base: each of the 62 is a bridge
        x.turn(2);
        sampleIs(x, true, 62, 0, 0, 62, 0, 1, 62 * 11, 11);
        // degree 1: from node 0 a shift to itself, then a walk
        ShiftRing d = Rings.two();
        d.degree(1);
        d.mendAll();
        sampleIs(d, true, 62, 62, 31, 0, 0, 1, 62, 1);
        sampleIs(new ShiftRing(), true, 0, 0, 0, 0, 0, 0, 0, 0);
        sampleIs(Rings.cut(), true, 0, 0, 0, 0, 64, 0, 0, 0);
        due(Rings.losing().sample(false, 4), () -> wrongOnes());
        for (int w : new int[] {-1, 8, Integer.MIN_VALUE, Integer.MAX_VALUE}) {
            refused(WHAT, () -> x.sample(true, w));
            refused(WHAT, () -> x.sample(false, w));
        }
    }

    private static int wrongOnes() {
        int not = 0;
        for (int n : new int[] {0, 2, 3}) {
            ShiftRing x = Rings.losing();
            for (int key = 0; key < 4096; key += 64) {
                x.lookup(n, key, false);
                not += 1 - x.latest(4);
            }
        }
        return not;
    }

    private static void sampleIs(ShiftRing x, boolean best, int... all) {
        for (int w = 0; w < all.length; w++) {
            int what = w;
            due(all[w], () -> x.sample(best, what));
        }
    }

    private static void p25() {
        ShiftRing x = Rings.two();
        due(62, () -> x.cost(4, 4));
        due(62, () -> x.cost(2, 1));
        ShiftRing f = Rings.full();
        int was = f.sample(true, 0);
        due(was, () -> f.cost(4, 4));
        int other = f.cost(16, 8);
        due(was, () -> f.sample(true, 0));
        due(0, () -> f.count(6));
        f.turn(16);
        f.degree(8);
        f.mendAll();
        due(other, () -> f.sample(true, 0));
        for (int b : new int[] {0, 1, 3, 32, -2}) {
            refused(ARGUMENT, () -> x.cost(b, 4));
        }
        for (int d : new int[] {0, 9, -1}) {
            refused(ARGUMENT, () -> x.cost(4, d));
        }
        due(0, () -> new ShiftRing().cost(16, 8));
        // by what is laid now, not by old tables: the same as a mended ring
        ShiftRing s = new ShiftRing();
        s.join(0);
        s.join(2048);
        due(62, () -> s.cost(4, 4));
    }

    private static void p26() {
        due(201, () -> new ShiftRing().choice(11));
        due(201, () -> Rings.two().choice(11));
        ShiftRing f = Rings.full();
        for (int links = 4; links <= 11; links++) {
            int most = links;
            due(cheapest(f, links), () -> f.choice(most));
        }
        for (int n : new int[] {3, 12, -1, 0, Integer.MIN_VALUE, Integer.MAX_VALUE}) {
            refused(ARGUMENT, () -> f.choice(n));
        }
        due(4, () -> f.count(2));
        due(4, () -> f.count(3));
    }

    private static int cheapest(ShiftRing x, int links) {
        int found = 0;
        int least = Integer.MAX_VALUE;
        for (int d = 1; d + 3 <= links; d++) {
            for (int b = 2; b <= 16; b *= 2) {
                if (x.cost(b, d) < least) {
                    least = x.cost(b, d);
                    found = 100 * b + d;
                }
            }
        }
        return found;
    }

    private static void p27() {
        ShiftRing x = Rings.two();
        due(1, () -> x.takes(0, 2112));
        due(0, () -> x.takes(0, 64));
        due(0, () -> x.takes(0, 0));
        due(-1, () -> Rings.cut().takes(0, 0));
        due(-1, () -> new ShiftRing().count(99));
        ShiftRing s = new ShiftRing();
        s.join(0);
        s.join(2048);
        due(-1, () -> s.takes(0, 64));
        due(-1, () -> s.takes(1, 64));
        due(0, () -> s.takes(0, 0));
        for (int p : NO_PLACES) {
            refused(ARGUMENT, () -> x.takes(0, p));
        }
        for (int n : NO_NODES) {
            refused(INDEX, () -> x.takes(n, 0));
        }
        x.down(1);
        refused(STATE, () -> x.takes(1, 0));
        refused(ARGUMENT, () -> x.takes(1, 4096));
    }

    private static void p28() {
        ShiftRing x = Rings.two();
        due(2112, () -> x.worst(0));
        due(64, () -> x.worst(1));
        due(0, () -> Rings.at(7).worst(0));
        due(-1, () -> Rings.cut().worst(0));
        for (int n : NO_NODES) {
            refused(INDEX, () -> x.worst(n));
        }
        x.down(1);
        refused(STATE, () -> x.worst(1));
    }

    private static void p29() {
        ShiftRing x = Rings.two();
        due(31, () -> x.traffic(0));
        due(31, () -> x.traffic(1));
        due(0, () -> Rings.at(7).traffic(0));
        // lookups that come to a node again and again count once
        ShiftRing l = Rings.losing();
        due(1, () -> l.traffic(0) <= 3 * 64 && l.traffic(3) <= 3 * 64 ? 1 : 0);
        x.down(1);
        refused(STATE, () -> x.traffic(1));
        due(0, () -> x.traffic(0));
        for (int n : NO_NODES) {
            refused(INDEX, () -> x.traffic(n));
        }
    }

    private static void p30() {
        ShiftRing x = Rings.two();
        due(-1, () -> x.detour(2048));
        due(-2, () -> x.detour(64));
        due(0, () -> new ShiftRing().detour(0));
        due(0, () -> Rings.cut().detour(0));
        due(-4, () -> Rings.four().detour(2000));
        for (int p : NO_PLACES) {
            refused(ARGUMENT, () -> x.detour(p));
        }
    }

    private static void p31() {
        ShiftRing x = Rings.two();
        x.spot(0, 50);
        due(0, () -> x.quickest(64));
        due(1, () -> x.quickest(2112));
        due(0, () -> x.quickest(2048));
        due(-1, () -> new ShiftRing().quickest(0));
        due(-1, () -> Rings.cut().quickest(0));
        for (int p : NO_PLACES) {
            refused(ARGUMENT, () -> x.quickest(p));
        }
    }

    private static void p32() {
        ShiftRing x = Rings.two();
        due(0, () -> x.better(0));
        x.spot(1, 9);
        due(9, () -> x.better(0));
        due(0, () -> x.better(1));
        x.spot(0, 99);
        due(99, () -> x.better(1));
        x.down(0);
        due(0, () -> x.better(0));
        due(0, () -> x.better(1));
        for (int n = 0; n < 24; n += 5) {
            int node = n;
            due(bestSpot(node), () -> spotted().better(node));
        }
        for (int n : NO_NODES) {
            refused(INDEX, () -> x.better(n));
        }
    }

    private static ShiftRing spotted() {
        ShiftRing x = Rings.full();
        for (int n = 0; n < 24; n++) {
            x.spot(n, n * 37 % 100);
        }
        return x;
    }

    private static int bestSpot(int node) {
        ShiftRing x = spotted();
        int found = 0;
        int least = Integer.MAX_VALUE;
        for (int s = 0; s <= 99; s++) {
            x.spot(node, s);
            int time = x.sample(true, 6);
            if (time < least) {
                least = time;
                found = s;
            }
        }
        return found;
    }

    private static void p33() {
        ShiftRing x = Rings.at(100, 2000);
        due(0, () -> x.host(100));
        due(0, () -> x.host(1999));
        due(1, () -> x.host(2000));
        due(1, () -> x.host(99));
        due(1, () -> x.host(0));
        x.down(1);
        due(0, () -> x.host(99));
        for (int p : NO_PLACES) {
            refused(ARGUMENT, () -> x.host(p));
        }
        x.down(0);
        due(-1, () -> x.host(99));
    }

    private static void p34() {
        ShiftRing x = Rings.two();
        due(2, () -> x.ideal(0, 2112));
        due(1, () -> x.ideal(0, 64));
        due(0, () -> x.ideal(0, 0));
        due(1, () -> x.ideal(0, 2048));
        due(0, () -> x.ideal(1, 2048));
        due(2, () -> Rings.four().ideal(0, 2000));
        due(0, () -> Rings.at(7).ideal(0, 9));
        for (int p : NO_PLACES) {
            refused(ARGUMENT, () -> x.ideal(0, p));
            refused(INDEX, () -> x.ideal(2, p));
        }
        for (int n : NO_NODES) {
            refused(INDEX, () -> x.ideal(n, 0));
        }
        x.down(1);
        refused(STATE, () -> x.ideal(1, 0));
        refused(STATE, () -> x.ideal(0, 0));
        refused(ARGUMENT, () -> x.ideal(0, -1));
        refused(STATE, () -> Rings.cut().ideal(0, 0));
    }

    private static void p35() {
        due(1, () -> new ShiftRing().enough(1));
        due(1, () -> Rings.two().enough(1));
        ShiftRing f = Rings.full();
        due(-1, () -> f.enough(1));
        due(1, () -> f.enough(200));
        for (int hops = 1; hops <= 8; hops++) {
            int most = hops;
            due(leastDegree(f, hops), () -> f.enough(most));
        }
        for (int h : new int[] {0, 201, -1, Integer.MIN_VALUE, Integer.MAX_VALUE}) {
            refused(ARGUMENT, () -> f.enough(h));
        }
    }

    private static int leastDegree(ShiftRing x, int hops) {
        int was = x.degree(1);
        int found = -1;
        for (int d = 8; d >= 1; d--) {
            x.degree(d);
            x.mendAll();
            if (x.sample(true, 5) <= hops) {
                found = d;
            }
        }
        x.degree(was);
        x.mendAll();
        return found;
    }

    private static void p36() {
        ShiftRing x = Rings.four();
        due(2, () -> x.copies(3));
        due(3, () -> x.copies(1));
        for (int n : new int[] {0, 4, -1, Integer.MIN_VALUE, Integer.MAX_VALUE}) {
            refused(ARGUMENT, () -> x.copies(n));
        }
        due(1, () -> x.put(0, 5, 5));
        due(1, () -> x.copies(3));
        due(3, () -> x.put(0, 5, 5));
    }

    private static void p37() {
        ShiftRing x = Rings.four();
        due(2, () -> x.put(0, 2000, 999));
        due(2, () -> x.latest(0) + x.latest(5));
        due(2, () -> x.put(3, 4000, 0));
        due(2, () -> x.held(0, 4000, 1));
        due(0, () -> x.held(1, 4000, 0));
        for (int v : new int[] {-1, 1000, Integer.MIN_VALUE, Integer.MAX_VALUE}) {
            refused(ARGUMENT, () -> x.put(0, 5, v));
            refused(INDEX, () -> x.put(4, 5, v));
        }
        for (int p : NO_PLACES) {
            refused(ARGUMENT, () -> x.put(0, p, 5));
        }
        for (int n : NO_NODES) {
            refused(INDEX, () -> x.put(n, 0, 5));
        }
        x.copies(3);
        x.down(1);
        x.lookup(0, 0, true);
        refused(STATE, () -> x.put(1, 5, 5));
        refused(ARGUMENT, () -> x.put(1, 5, 1000));
        due(6, () -> x.latest(6));
        due(1, () -> x.latest(4));
        // its successors are 1, 2, 3: those that are up
        due(3, () -> x.put(3, 3500, 1));
        due(13, () -> x.about(3500, 1));
        due(3, () -> x.count(13));
        due(1, () -> Rings.at(7).put(0, 5, 5));
        ShiftRing c = Rings.cut();
        c.mend(0);
        c.put(0, 9, 9);
        c.up(1);
        c.up(2);
        c.down(0);
        c.up(0);
        c.down(1);
        c.down(2);
        refused(STATE, () -> c.put(0, 5, 5));
        due(0, () -> c.why(0));
        due(1, () -> c.count(11));
        due(1, () -> c.count(13));
        ShiftRing l = Rings.losingBest();
        refused(STATE, () -> l.put(1, 2688, 5));
        due(200, () -> l.latest(5));
        due(0, () -> l.count(11));
        due(0, () -> l.count(13));
        ShiftRing m = Rings.four();
        for (int k = 0; k < 32; k++) {
            m.put(0, 100 * k, k);
        }
        m.lookup(0, 0, true);
        refused(STATE, () -> m.put(0, 3999, 1));
        due(6, () -> m.latest(6));
        due(0, () -> m.latest(5));
        due(2, () -> m.put(0, 3100, 1));
        due(32, () -> m.count(11));
        due(33, () -> m.count(13));
        due(33, () -> m.about(3100, 3));
    }

    private static void p38() {
        ShiftRing x = Rings.four();
        x.put(0, 2000, 7);
        due(7, () -> x.get(3, 2000));
        due(1, () -> x.latest(4));
        due(-1, () -> x.get(3, 2001));
        x.down(2);
        due(7, () -> x.get(0, 2000));
        x.put(1, 2000, 9);
        x.up(2);
        due(7, () -> x.get(0, 2000));
        x.down(3);
        x.down(2);
        due(9, () -> x.get(0, 2000));
        // holds none itself: the first successor that is up and holds one
        ShiftRing y = Rings.four();
        y.copies(1);
        y.put(0, 2000, 5);
        y.join(2040);
        y.mendAll();
        due(4, () -> y.owner(2000));
        due(5, () -> y.get(0, 2000));
        y.down(2);
        due(-1, () -> y.get(0, 2000));
        for (int p : NO_PLACES) {
            refused(ARGUMENT, () -> x.get(0, p));
        }
        for (int n : NO_NODES) {
            refused(INDEX, () -> x.get(n, 0));
        }
        x.lookup(0, 0, true);
        refused(STATE, () -> x.get(2, 2000));
        refused(ARGUMENT, () -> x.get(2, -1));
        due(6, () -> x.latest(6));
        ShiftRing c = Rings.cut();
        refused(STATE, () -> c.get(0, 5));
        due(0, () -> c.why(0));
        ShiftRing l = Rings.losingBest();
        refused(STATE, () -> l.get(1, 2688));
        due(200, () -> l.latest(5));
    }

    private static void p39() {
        ShiftRing x = Rings.four();
        x.put(0, 2000, 7);
        x.down(2);
        x.put(1, 2000, 9);
        x.up(2);
        due(0, () -> x.settle(1));
        due(1, () -> x.settle(3));
        due(9, () -> x.held(2, 2000, 0));
        due(1, () -> x.settle(0));
        due(-1, () -> x.held(0, 2000, 0));
        due(0, () -> x.settle(0));
        // an older version goes to a keeper that holds none, and is dropped by one that keeps none
        ShiftRing y = Rings.four();
        y.copies(1);
        y.put(0, 100, 1);
        y.join(500);
        y.copies(2);
        due(1, () -> y.settle(1));
        due(18, () -> y.about(100, 1));
        y.copies(1);
        due(1, () -> y.settle(1));
        due(16, () -> y.about(100, 1));
        // a newer one is not overwritten by an older one
        ShiftRing z = Rings.four();
        z.put(0, 100, 1);
        z.down(2);
        z.put(0, 100, 2);
        z.up(2);
        due(0, () -> z.settle(2));
        due(2, () -> z.held(1, 100, 0));
        x.down(3);
        refused(STATE, () -> x.settle(3));
        for (int n : NO_NODES) {
            refused(INDEX, () -> x.settle(n));
        }
    }

    private static void p40() {
        ShiftRing x = Rings.four();
        x.put(0, 2000, 7);
        x.put(0, 2000, 0);
        due(0, () -> x.held(2, 2000, 0));
        due(2, () -> x.held(2, 2000, 1));
        due(2, () -> x.held(3, 2000, 1));
        due(-1, () -> x.held(0, 2000, 0));
        due(-1, () -> x.held(0, 2000, 1));
        due(-1, () -> x.held(2, 2001, 0));
        x.down(2);
        due(0, () -> x.held(2, 2000, 0));
        for (int w : new int[] {-1, 2, Integer.MIN_VALUE, Integer.MAX_VALUE}) {
            refused(WHAT, () -> x.held(0, 0, w));
            refused(WHAT, () -> x.held(0, 4096, w));
            refused(INDEX, () -> x.held(4, 0, w));
        }
        for (int p : NO_PLACES) {
            refused(ARGUMENT, () -> x.held(0, p, 0));
        }
        for (int n : NO_NODES) {
            refused(INDEX, () -> x.held(n, 0, 0));
        }
    }

    private static void p41() {
        ShiftRing x = Rings.four();
        due(12, () -> x.about(2000, 0));
        due(0, () -> x.about(2000, 1));
        due(0, () -> x.about(2000, 2));
        due(0, () -> x.about(2000, 3));
        x.put(0, 2000, 7);
        x.down(2);
        due(9, () -> x.about(2000, 0));
        x.put(0, 2000, 8);
        due(9, () -> x.about(2000, 1));
        due(4, () -> x.about(2000, 2));
        due(2, () -> x.about(2000, 3));
        x.copies(1);
        due(8, () -> x.about(2000, 0));
        x.copies(3);
        due(11, () -> x.about(2000, 0));
        x.down(0);
        x.down(1);
        due(8, () -> x.about(2000, 0));
        x.down(3);
        due(0, () -> x.about(2000, 0));
        due(9, () -> x.about(2000, 1));
        for (int w : new int[] {-1, 4, Integer.MIN_VALUE, Integer.MAX_VALUE}) {
            refused(WHAT, () -> x.about(0, w));
            refused(WHAT, () -> x.about(4096, w));
        }
        for (int p : NO_PLACES) {
            refused(ARGUMENT, () -> x.about(p, 3));
        }
    }

    private static void p42() {
        ShiftRing x = Rings.four();
        int[] counts = {4, 4, 4, 4, 6, 1, 0, 0, 0, 3, 0, 0, 0, 0, 0, 3584};
        for (int w = 0; w < counts.length; w++) {
            int what = w;
            due(counts[w], () -> x.count(what));
        }
        x.put(0, 2000, 7);
        x.put(0, 100, 7);
        due(2, () -> x.count(11));
        x.down(2);
        due(3, () -> x.count(1));
        due(0, () -> x.count(12));
        due(3, () -> x.count(7));
        due(1024, () -> x.count(14));
        due(-1, () -> x.count(15));
        x.down(3);
        due(1, () -> x.count(12));
        due(2, () -> x.count(13));
        x.turn(8);
        x.degree(2);
        due(8, () -> x.count(2));
        due(2, () -> x.count(3));
        due(4, () -> x.count(4));
        ShiftRing t = Rings.two();
        due(0, () -> t.count(16));
        t.down(0);
        due(1, () -> t.count(16));
        due(1, () -> t.count(7));
        due(0, () -> t.count(14));
        // all round from 2048: half of it is 0, where a node that is down stands
        due(-1, () -> t.count(15));
        // 4093 keys from 14 to 10: the first 2046 of them end at 2059
        due(2059, () -> Rings.at(10, 11, 13).count(15));
        ShiftRing s = new ShiftRing();
        s.join(0);
        s.join(2048);
        due(-1, () -> s.count(5));
        due(1, () -> s.count(10));
        ShiftRing f = Rings.full();
        due(f.node(f.count(8), 10), () -> mostHarm(f));
        due(f.traffic(f.count(16)), () -> mostTraffic(f));
        for (int w : new int[] {-1, 17, Integer.MIN_VALUE, Integer.MAX_VALUE}) {
            due(-1, () -> x.count(w));
        }
    }

    private static int mostHarm(ShiftRing x) {
        int most = -1;
        for (int n = 0; n < x.count(0); n++) {
            most = Math.max(most, x.node(n, 10));
        }
        return most;
    }

    private static int mostTraffic(ShiftRing x) {
        int most = -1;
        for (int n = 0; n < x.count(0); n++) {
            most = Math.max(most, x.traffic(n));
        }
        return most;
    }

    private static final Runnable[] PROMISES = {
        PromiseTest::p1, PromiseTest::p2, PromiseTest::p3, PromiseTest::p4, PromiseTest::p5, PromiseTest::p6,
        PromiseTest::p7, PromiseTest::p8, PromiseTest::p9, PromiseTest::p10, PromiseTest::p11, PromiseTest::p12,
        PromiseTest::p13, PromiseTest::p14, PromiseTest::p15, PromiseTest::p16, PromiseTest::p17, PromiseTest::p18,
        PromiseTest::p19, PromiseTest::p20, PromiseTest::p21, PromiseTest::p22, PromiseTest::p23, PromiseTest::p24,
        PromiseTest::p25, PromiseTest::p26, PromiseTest::p27, PromiseTest::p28, PromiseTest::p29, PromiseTest::p30,
        PromiseTest::p31, PromiseTest::p32, PromiseTest::p33, PromiseTest::p34, PromiseTest::p35, PromiseTest::p36,
        PromiseTest::p37, PromiseTest::p38, PromiseTest::p39, PromiseTest::p40, PromiseTest::p41, PromiseTest::p42};

    public static void main(String[] args) {
        for (int k = 0; k < PROMISES.length; k++) {
            Check.sentence("promise " + (k + 1), PROMISES[k]);
        }
        Check.end();
    }
}
