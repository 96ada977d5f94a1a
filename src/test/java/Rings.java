/** Rings that tests begin with. */
final class Rings {
    private Rings() {
    }

    static ShiftRing joined(int... places) {
        ShiftRing x = new ShiftRing();
        for (int place : places) {
            x.join(place);
        }
        return x;
    }

    static ShiftRing at(int... places) {
        ShiftRing x = joined(places);
        x.mendAll();
        return x;
    }

    static ShiftRing laidBy(int base, int degree, int... places) {
        ShiftRing x = joined(places);
        x.turn(base);
        x.degree(degree);
        x.mendAll();
        return x;
    }

    /** Base and degree are told first, and nobody is mended: tables are old. */
    static ShiftRing joinedBy(int base, int degree, int... places) {
        ShiftRing x = new ShiftRing();
        x.turn(base);
        x.degree(degree);
        for (int place : places) {
            x.join(place);
        }
        return x;
    }

    /** So many nodes in a row, each one place behind the other. */
    static int[] inARow(int first, int many) {
        int[] places = new int[many];
        for (int n = 0; n < many; n++) {
            places[n] = first + n;
        }
        return places;
    }

    static ShiftRing two() {
        return at(0, 2048);
    }

    /** Node 0 does not know of node 1. */
    static ShiftRing strangers() {
        return joined(0, 2048);
    }

    static ShiftRing four() {
        return at(0, 1024, 2048, 3072);
    }

    static ShiftRing five() {
        return at(100, 200, 300, 400, 500);
    }

    static ShiftRing full() {
        ShiftRing x = new ShiftRing();
        for (int n = 0; n < 24; n++) {
            x.join((n * 1453 + 77) % 4096);
        }
        x.mendAll();
        return x;
    }

    /** Four nodes with one down whose lookups go round and round: see lookup(0, 2176, false). */
    static ShiftRing losing() {
        ShiftRing x = at(2304, 512, 2048, 1792);
        x.down(1);
        return x;
    }

    /** The same for lookups from the best start: see lookup(1, 2688, true). */
    static ShiftRing losingBest() {
        ShiftRing x = laidBy(4, 1, 3072, 3840, 2048, 2560, 768);
        x.down(0);
        return x;
    }

    /** Only node 0 is up, and all its successors (1, 2, 3) are down. */
    static ShiftRing cut() {
        ShiftRing x = four();
        x.down(1);
        x.down(2);
        x.down(3);
        return x;
    }

    /** A ring in use: node 4 is down, values are held, a lookup was made, nothing is as at first. */
    static ShiftRing used() {
        ShiftRing x = joined(0, 1024, 2048, 3072, 3584);
        x.degree(3);
        x.mendAll();
        x.spot(0, 9);
        x.spot(1, 99);
        x.spot(4, 50);
        x.put(0, 2000, 7);
        x.put(1, 3500, 999);
        x.down(4);
        x.copies(3);
        x.put(2, 3500, 0);
        x.put(3, 100, 41);
        x.mend(0);
        x.lookup(0, 2000, false);
        return x;
    }

    /** 32 keys are known, 0, 100, .. 3100. */
    static ShiftRing crammed() {
        ShiftRing x = four();
        for (int k = 0; k < 32; k++) {
            x.put(0, 100 * k, k);
        }
        x.lookup(0, 0, true);
        return x;
    }
}
