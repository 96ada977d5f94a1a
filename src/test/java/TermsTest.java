/** The bounds that "Terms" names, and the cases at them: a test for each sentence that names one. */
public final class TermsTest {
    private static final Class<?> ARGUMENT = Check.ARGUMENT;
    private static final Class<?> STATE = Check.STATE;
    private static final int[][] BASES_WITH_LETTERS = {{2, 12}, {4, 6}, {8, 4}, {16, 3}};

    private static void due(int want, Check.Call call) {
        Check.due(want, call);
    }

    private static void latestIs(ShiftRing x, int... all) {
        Check.dues(x::latest, all);
    }

    private static void stepIs(ShiftRing x, int k, int... all) {
        Check.dues(what -> x.step(k, what), all);
    }

    private static void successorsAre(ShiftRing x, int node, int... all) {
        Check.dues(k -> x.link(node, k, false), all);
        due(-1, () -> x.link(node, all.length, false));
        due(all.length, () -> x.node(node, 3));
    }

    private static void pointersAre(ShiftRing x, int node, int... all) {
        Check.dues(k -> x.link(node, k, true), all);
        due(-1, () -> x.link(node, all.length, true));
        due(all.length, () -> x.node(node, 4));
    }

    // ==== 1. the ring ====

    private static void places() {
        due(0, () -> new ShiftRing().join(0));
        due(0, () -> new ShiftRing().join(4095));
        Check.refused(ARGUMENT, ShiftRing::new, x -> x.join(-1));
        Check.refused(ARGUMENT, ShiftRing::new, x -> x.join(4096));
    }

    private static void placesAreRound() {
        ShiftRing x = Rings.at(10, 4000);
        Check.dues(k -> x.owner(new int[] {3999, 4000, 4001, 4095, 0, 9, 10, 11}[k]), 1, 1, 0, 0, 0, 0, 0, 1);
        Check.dues(k -> x.host(new int[] {3999, 4000, 4095, 0, 9, 10}[k]), 0, 1, 1, 1, 1, 0);
        Check.dues(k -> x.lookup(1, new int[] {4000, 4095, 0, 9, 10}[k], true), 1, 0, 0, 0, 0);
        due(0, () -> x.latest(5));
        due(106, () -> x.node(1, 11));
        due(106, () -> x.node(0, 9));
        ShiftRing y = Rings.at(0, 4095);
        due(0, () -> y.link(1, 0, false));
        due(1, () -> y.node(1, 11));
        due(4095, () -> y.node(0, 11));
        due(1, () -> y.node(0, 9));
        due(4095, () -> y.node(1, 9));
    }

    private static void base() {
        ShiftRing x = new ShiftRing();
        due(4, () -> x.count(2));
        due(4, () -> x.turn(2));
        due(2, () -> x.turn(4));
        due(4, () -> x.turn(8));
        due(8, () -> x.turn(16));
        due(16, () -> x.count(2));
        for (int base : new int[] {1, 3, 5, 7, 9, 15, 17, 0, -2, 32}) {
            Check.refused(ARGUMENT, Rings::four, y -> y.turn(base));
        }
    }

    private static void letters() {
        ShiftRing x = new ShiftRing();
        for (int[] pair : BASES_WITH_LETTERS) {
            x.turn(pair[0]);
            due(pair[1], () -> x.count(4));
            due(-1, () -> x.letter(4095, -1));
            due(pair[0] - 1, () -> x.letter(4095, 0));
            due(pair[0] - 1, () -> x.letter(4095, pair[1] - 1));
            due(-1, () -> x.letter(4095, pair[1]));
        }
    }

    private static void highestFirst() {
        ShiftRing x = new ShiftRing();
        for (int[] pair : BASES_WITH_LETTERS) {
            x.turn(pair[0]);
            due(pair[0] / 2, () -> x.letter(2048, 0));
            due(0, () -> x.letter(2048, pair[1] - 1));
            due(0, () -> x.letter(1, 0));
            due(1, () -> x.letter(1, pair[1] - 1));
        }
    }

    /** 1365 times 4 is 1364 round: from the node to there it is 4095. */
    private static void fromAToB() {
        ShiftRing x = Rings.at(1365);
        pointersAre(x, 0, 0);
        due(0, () -> x.host(1364));
        due(0, () -> x.host(1365));
        due(0, () -> x.owner(1365));
        due(0, () -> x.owner(1366));
    }

    private static void atMost24() {
        ShiftRing x = new ShiftRing();
        for (int n = 0; n < 24; n++) {
            int number = n;
            due(number, () -> x.join(170 * number));
        }
        Check.refused(STATE, () -> x.join(4095));
        due(24, () -> x.count(0));
        Check.refused(STATE, Rings::full, y -> y.join(1));
        Check.refused(STATE, () -> {
            ShiftRing y = Rings.full();
            y.down(23);
            return y;
        }, y -> y.join(1));
    }

    private static void placeOfItsOwn() {
        Check.refused(STATE, () -> Rings.joined(7), x -> x.join(7));
        Check.refused(STATE, () -> {
            ShiftRing x = Rings.joined(7, 9);
            x.down(0);
            return x;
        }, x -> x.join(7));
        due(1, () -> Rings.joined(7).join(6));
        due(1, () -> Rings.joined(7).join(8));
        Check.refused(STATE, () -> Rings.joined(0), x -> x.join(0));
        due(1, () -> Rings.joined(0).join(4095));
    }

    private static void numbered() {
        ShiftRing x = new ShiftRing();
        due(0, () -> x.join(3000));
        due(1, () -> x.join(5));
        due(2, () -> x.join(4095));
        x.down(1);
        due(3, () -> x.join(6));
        Check.dues(n -> x.node(n, 0), 3000, 5, 4095, 6);
        Check.dues(n -> x.node(n, 1), 1, 0, 1, 1);
    }

    private static void ownerOfKey() {
        ShiftRing x = Rings.at(100, 200);
        Check.dues(k -> x.owner(new int[] {99, 100, 101, 199, 200, 201, 4095, 0}[k]), 0, 0, 1, 1, 1, 0, 0, 0);
        x.down(1);
        due(0, () -> x.owner(101));
        due(0, () -> x.owner(200));
        x.down(0);
        due(-1, () -> x.owner(100));
    }

    // ==== 1. tables ====

    private static void successors() {
        successorsAre(Rings.at(100), 0);
        successorsAre(Rings.at(100, 200), 0, 1);
        successorsAre(Rings.at(100, 200, 300), 0, 1, 2);
        successorsAre(Rings.at(100, 200, 300, 400), 0, 1, 2, 3);
        successorsAre(Rings.five(), 0, 1, 2, 3);
        successorsAre(Rings.five(), 4, 0, 1, 2);
        successorsAre(Rings.five(), 3, 4, 0, 1);
        successorsAre(Rings.at(7, 8, 9, 10, 11), 0, 1, 2, 3);
        successorsAre(Rings.at(4094, 4095, 0, 1), 0, 1, 2, 3);
        successorsAre(Rings.at(4094, 4095, 0, 1), 1, 2, 3, 0);
        ShiftRing x = Rings.five();
        x.down(2);
        x.mend(1);
        successorsAre(x, 1, 3, 4, 0);
        x.down(3);
        x.mend(1);
        successorsAre(x, 1, 4, 0);
    }

    private static void pointersByDegree() {
        due(4, () -> new ShiftRing().count(3));
        due(4, () -> Rings.full().node(5, 4));
        for (int degree = 1; degree <= 8; degree++) {
            int most = degree;
            ShiftRing x = Rings.full();
            x.degree(degree);
            x.mend(5);
            due(most, () -> x.node(5, 4));
            due(-1, () -> x.link(5, most, true));
            due(Math.min(most, 3), () -> Rings.laidBy(4, most, 100, 200, 300).node(1, 4));
        }
        Check.refused(ARGUMENT, Rings::four, x -> x.degree(0));
        Check.refused(ARGUMENT, Rings::four, x -> x.degree(9));
    }

    /** 500 times 4 is 2000; 1024 times 4 is 0 round; 4095 times 4 is 4092 round, times 16 is 4080. */
    private static void hinge() {
        int[][] placesAndHinge = {{500, 2000, 1}, {500, 1999, 1}, {500, 2001, 0},
            {1024, 0, 1}, {1024, 4095, 1}, {1024, 1, 0}, {1025, 4, 1}, {1025, 5, 0},
            {4095, 4092, 1}, {4095, 4091, 1}, {4095, 4093, 0}};
        for (int[] row : placesAndHinge) {
            due(row[2], () -> Rings.at(row[0], row[1]).link(0, 0, true));
        }
        int[][] basePlacesAndHinge = {{2, 100, 200, 1}, {2, 100, 201, 0}, {8, 100, 800, 1}, {8, 100, 801, 0},
            {16, 100, 1600, 1}, {16, 100, 1601, 0}, {16, 4095, 4080, 1}, {16, 4095, 4081, 0}};
        for (int[] row : basePlacesAndHinge) {
            due(row[3], () -> Rings.laidBy(row[0], 4, row[1], row[2]).link(0, 0, true));
        }
        // the one that stands there is down: the last one that is up
        ShiftRing x = Rings.at(500, 2000, 1700);
        x.down(1);
        x.mend(0);
        due(2, () -> x.link(0, 0, true));
    }

    private static void pointersOnceEach() {
        ShiftRing x = Rings.laidBy(4, 8, 100, 300, 1300, 2000, 4000);
        pointersAre(x, 0, 1, 2, 3, 4, 0);
        pointersAre(x, 4, 3, 4, 0, 1, 2);
        x.down(2);
        x.mend(0);
        pointersAre(x, 0, 1, 3, 4, 0);
        pointersAre(Rings.laidBy(4, 8, 7), 0, 0);
        pointersAre(Rings.at(10, 40, 41, 42), 0, 1, 2, 3, 0);
        pointersAre(Rings.at(1023, 4095, 0, 1), 0, 0, 1, 2, 3);
        pointersAre(Rings.at(1024, 4095, 0, 1), 0, 2, 3, 0, 1);
    }

    private static void laidWhenItComes() {
        ShiftRing x = Rings.joined(100, 200);
        successorsAre(x, 0);
        pointersAre(x, 0, 0);
        successorsAre(x, 1, 0);
        pointersAre(x, 1, 1, 0);
        x.turn(8);
        x.degree(1);
        x.down(0);
        x.join(300);
        due(8, () -> x.node(2, 2));
        successorsAre(x, 2, 1);
        pointersAre(x, 2, 2);
        due(4, () -> x.node(1, 2));
    }

    private static void laidWhenItGoesUp() {
        ShiftRing x = Rings.at(100, 200, 300);
        x.down(0);
        x.down(1);
        x.turn(2);
        x.degree(2);
        x.up(0);
        due(2, () -> x.node(0, 2));
        successorsAre(x, 0, 2);
        // 100 times 2 is 200, where a node is down: the last one back is itself
        pointersAre(x, 0, 0, 2);
        successorsAre(x, 1, 2, 0);
        due(4, () -> x.node(1, 2));
        ShiftRing alone = Rings.at(7);
        alone.down(0);
        alone.up(0);
        successorsAre(alone, 0);
        pointersAre(alone, 0, 0);
    }

    private static void laidWhenMended() {
        ShiftRing x = Rings.joined(100, 200, 300);
        x.turn(16);
        x.mend(0);
        due(16, () -> x.node(0, 2));
        successorsAre(x, 0, 1, 2);
        due(4, () -> x.node(1, 2));
        successorsAre(x, 1, 0);
        x.down(2);
        x.mendAll();
        due(16, () -> x.node(1, 2));
        successorsAre(x, 1, 0);
        due(4, () -> x.node(2, 2));
        successorsAre(x, 2, 0, 1);
    }

    private static void tablesStay() {
        ShiftRing x = Rings.at(100, 200, 300);
        x.join(150);
        x.down(1);
        x.turn(8);
        x.degree(1);
        successorsAre(x, 0, 1, 2);
        pointersAre(x, 0, 2, 0, 1);
        due(4, () -> x.node(0, 2));
        x.up(1);
        successorsAre(x, 0, 1, 2);
        pointersAre(x, 0, 2, 0, 1);
        due(4, () -> x.node(0, 2));
    }

    private static void linksButItself() {
        due(0, () -> Rings.at(7).node(0, 5));
        due(0, () -> Rings.at(7).node(0, 6));
        due(0, () -> Rings.at(7).count(9));
        due(2, () -> Rings.two().node(0, 5));
        due(1, () -> Rings.two().node(1, 5));
        due(1, () -> Rings.two().count(9));
        // 3 successors and 8 pointers that are others
        ShiftRing x = Rings.laidBy(16, 8, 130, 140, 150, 160, 2000, 2100, 2200, 2300, 2400, 2500, 2600, 2700);
        pointersAre(x, 0, 4, 5, 6, 7, 8, 9, 10, 11);
        due(0xffe, () -> x.node(0, 5));
        due(11, () -> x.count(9));
        due(1, () -> x.node(1, 6) & 1);
        due(0, () -> x.node(0, 6) & 1);
    }

    // ==== 2. next, arc, start ====

    private static void next() {
        ShiftRing x = Rings.five();
        due(1, () -> x.node(0, 8));
        x.down(1);
        due(2, () -> x.node(0, 8));
        x.down(2);
        due(3, () -> x.node(0, 8));
        x.down(3);
        due(-1, () -> x.node(0, 8));
        due(-1, () -> x.node(0, 11));
        due(0, () -> x.node(4, 8));
        x.up(2);
        due(2, () -> x.node(0, 8));
    }

    private static void nextIsItself() {
        due(0, () -> Rings.at(7).node(0, 8));
        ShiftRing x = Rings.strangers();
        due(0, () -> x.node(0, 8));
        due(0, () -> x.lookup(0, 2048, true));
        x.mend(0);
        due(1, () -> x.node(0, 8));
    }

    private static void arc() {
        ShiftRing x = Rings.five();
        due(100, () -> x.node(0, 11));
        x.down(1);
        due(200, () -> x.node(0, 11));
        x.down(2);
        due(300, () -> x.node(0, 11));
        due(3696, () -> x.node(4, 11));
        due(1, () -> Rings.at(100, 101).node(0, 11));
        due(4095, () -> Rings.at(100, 101).node(1, 11));
        due(1, () -> Rings.at(4095, 0).node(0, 11));
        due(4095, () -> Rings.at(4095, 0).node(1, 11));
    }

    private static void arcIsAll() {
        due(4096, () -> Rings.at(0).node(0, 11));
        due(4096, () -> Rings.at(4095).node(0, 11));
        due(4096, () -> Rings.strangers().node(0, 11));
        due(2048, () -> Rings.strangers().node(1, 11));
    }

    private static void plainStart() {
        for (int[] pair : BASES_WITH_LETTERS) {
            ShiftRing x = Rings.laidBy(pair[0], 4, 0, 1024, 2048, 3072);
            x.lookup(3, 2000, false);
            stepIs(x, 0, 3, 3072, pair[1]);
            due(0, () -> x.latest(6));
            // though the key is its place, or in its arc, and a start of all letters would be there
            for (int key : new int[] {3072, 3073, 4095, 0}) {
                x.lookup(3, key, false);
                due(0, () -> x.latest(6));
            }
        }
    }

    /** By base 4 10 is 22, 11 is 23, 12 is 30, 13 is 31: the arc of node 0 is 10, 11, 12. */
    private static void bestStart() {
        ShiftRing x = Rings.at(10, 13, 2000);
        int[][] keyStartSpared = {
            {3072, 12, 2}, {3328, 11, 1}, {2816, 11, 2}, {2560, 10, 2}, {2048, 10, 1}, {256, 12, 1},
            {1024, 10, 0}, {1279, 10, 0}, {10, 10, 6}, {11, 11, 6}, {12, 12, 6}, {13, 12, 1}, {9, 12, 1}};
        for (int[] row : keyStartSpared) {
            due(row[1], () -> x.start(0, row[0]));
            x.lookup(0, row[0], true);
            due(row[2], () -> x.latest(6));
        }
        due(100, () -> Rings.at(100, 101).start(0, 3333));
        due(100, () -> Rings.at(100, 101).start(0, 101));
        due(4095, () -> Rings.at(7).start(0, 4095));
        due(6, () -> Rings.at(7).start(0, 6));
    }

    /** 3000 begins with 23232, which is 750; 1000 with 03322 (250); 700 with 02233 (175). */
    private static void bestStartOfSeveral() {
        due(750, () -> Rings.two().start(0, 3000));
        due(2298, () -> Rings.two().start(1, 1000));
        due(3247, () -> Rings.at(3000, 500).start(0, 700));
        due(175, () -> Rings.at(3248, 500).start(0, 700));
        due(3247, () -> Rings.at(3247, 500).start(0, 700));
    }

    private static void startWhereAllAreDown() {
        for (int key : new int[] {0, 5, 1024, 4095}) {
            ShiftRing x = Rings.cut();
            due(-2, () -> x.lookup(0, key, true));
            due(0, () -> x.latest(6));
        }
        Check.refused(STATE, Rings::cut, x -> x.start(0, 0));
    }

    // ==== 2. steps ====

    private static void cutThere() {
        for (boolean best : new boolean[] {false, true}) {
            due(-2, () -> Rings.cut().lookup(0, 0, best));
            due(-2, () -> Rings.cut().lookup(0, 1, best));
            due(-2, () -> Rings.cut().lookup(0, 1024, best));
            due(-2, () -> Rings.cut().lookup(0, 4095, best));
            due(0, () -> Rings.at(7).lookup(0, 9, best));
            ShiftRing x = Rings.cut();
            x.up(3);
            due(3, () -> x.lookup(0, 5, best));
        }
        // node 0 is cut, 4 is not: the lookup goes on to 0 and is cut there
        ShiftRing x = Rings.five();
        x.down(1);
        x.down(2);
        x.down(3);
        due(-2, () -> x.lookup(4, 101, false));
        due(0, () -> x.latest(7));
        due(0, () -> x.latest(4));
        due(1, () -> x.latest(0));
        Check.dues(x::why, 0, 3, 2, 1, -1);
        due(0, () -> x.lookup(4, 100, false));
        due(4, () -> x.latest(7));
    }

    private static void endsWithItself() {
        ShiftRing x = Rings.four();
        for (int n = 0; n < 4; n++) {
            int node = n;
            due(node, () -> x.lookup(node, 1024 * node, node % 2 == 0));
            latestIs(x, 0, 0, 0, 0, 1, 0);
            due(node, () -> x.latest(7));
        }
    }

    private static void endsWithNext() {
        ShiftRing x = Rings.four();
        for (int key : new int[] {1, 1023, 1024}) {
            due(1, () -> x.lookup(0, key, false));
            due(0, () -> x.latest(5));
            due(0, () -> x.latest(7));
        }
        due(2, () -> x.lookup(0, 1025, false));
        due(6, () -> x.latest(5));
        due(0, () -> x.lookup(0, 4095, false));
        due(1, () -> x.latest(5) > 0 ? 1 : 0);
        // 500 came into the arc, and node 0 does not know of it
        x.join(500);
        due(1, () -> x.lookup(0, 400, true));
        due(0, () -> x.latest(4));
        due(1, () -> x.lookup(0, 501, true));
        due(1, () -> x.latest(4));
    }

    /**
     * By base 2 and degree 1 nodes 4060 to 4079: from node 2 a shift to 19, a shift to 2, then ten
     * times 17 walks and a shift, 17 walks to 19 and one to 0, whose next stands at 4061: 200 steps.
     * With a node more ahead of them it would be 201.
     */
    private static void lost() {
        ShiftRing x = Rings.laidBy(2, 1, Rings.inARow(4060, 20));
        due(1, () -> x.lookup(2, 4061, false));
        latestIs(x, 200, 12, 188, 0, 1, 200, 0, 0, 200);
        stepIs(x, 0, 2, 4062, 12, 0);
        stepIs(x, 1, 19, 4029, 11, 0);
        stepIs(x, 2, 2, 3963, 10, 1);
        stepIs(x, 199, 19, 4061, 0, 1);
        stepIs(x, 200, -1, -1, -1, -1);
        ShiftRing y = Rings.laidBy(2, 1, Rings.inARow(4059, 21));
        due(-3, () -> y.lookup(3, 4061, false));
        latestIs(y, 200, 12, 188, 0, 0, 200, 0, 0, 200);
        stepIs(y, 199, 20, 4061, 0, 1);
        stepIs(y, 200, -1, -1, -1, -1);
        due(-1, () -> y.why(0));
    }

    private static void bridgeFromAnOldBase() {
        ShiftRing x = Rings.four();
        x.turn(2);
        x.mend(1);
        due(3, () -> x.lookup(0, 3000, false));
        latestIs(x, 2, 1, 0, 1, 1, 2, 0, 2, 2);
        stepIs(x, 0, 0, 0, 12, 2);
        stepIs(x, 1, 1, 1024, 12, 0);
        // from the best start: 0 knows 1011101110, node 1 begins anew with 10111011100 (1500)
        due(3, () -> x.lookup(0, 3000, true));
        stepIs(x, 0, 0, 750, 2, 2);
        stepIs(x, 1, 1, 1500, 1, 0);
        due(10, () -> x.latest(6));
        x.turn(4);
        due(3, () -> x.lookup(0, 3000, true));
        due(0, () -> x.latest(3));
    }

    /** Node 2 at 1280 has 1024 as its place times 4; its hinge is at 500, whose arc ends at 1025. */
    private static void shiftInTheArc() {
        ShiftRing x = Rings.laidBy(4, 1, 500, 1026, 1280, 1290);
        x.lookup(2, 1500, false);
        stepIs(x, 0, 2, 1280, 6, 0);
        stepIs(x, 1, 0, 1025, 5, 0);
        x.lookup(2, 2200, false);
        stepIs(x, 0, 2, 1280, 6, 0);
        stepIs(x, 1, 0, 1026, 5, 1);
        stepIs(x, 2, 1, 1026, 5, 0);
    }

    private static void walkWithNothingLeft() {
        ShiftRing x = Rings.laidBy(4, 1, 0, 1024, 2048, 3072);
        due(2, () -> x.lookup(0, 2000, true));
        stepIs(x, 0, 0, 500, 1, 0);
        stepIs(x, 1, 0, 2000, 0, 1);
        stepIs(x, 2, -1, -1, -1, -1);
        latestIs(x, 1, 1, 1, 0, 1, 2, 5, 1, 1);
    }

    /** Node 2 at 1280 shifts to 1025 for the key 1500. */
    private static void notFartherThanI() {
        for (int[] placeAndTo : new int[][] {{1024, 1}, {1025, 1}, {1026, 0}}) {
            ShiftRing x = Rings.at(1000, placeAndTo[0], 1280, 1290);
            x.lookup(2, 1500, false);
            stepIs(x, 0, 2, 1280, 6, 0);
            stepIs(x, 1, placeAndTo[1], 1025, 5);
        }
        // that pointer is down: the one ahead of it
        ShiftRing x = Rings.at(1000, 1025, 1280, 1290);
        x.down(1);
        x.lookup(2, 1500, false);
        stepIs(x, 1, 0, 1025, 5);
    }

    private static void hingeThoughItIsDown() {
        ShiftRing x = Rings.at(1000, 1025, 1280, 1290);
        x.down(0);
        x.lookup(2, 1500, false);
        stepIs(x, 0, 2, 1280, 6, 0);
        stepIs(x, 1, 1, 1025, 5);
        ShiftRing y = Rings.at(1000, 1026, 1280, 1290);
        y.down(0);
        due(1, () -> y.lookup(2, 1500, false));
        stepIs(y, 0, 2, 1280, 6, 2);
        latestIs(y, 1, 0, 0, 1, 1, 1, 0, 3, 1);
    }

    private static void bridgeWithoutAPointer() {
        ShiftRing x = Rings.at(1000, 1025, 1280, 1290);
        x.down(0);
        x.down(1);
        due(2, () -> x.lookup(2, 1500, false));
        stepIs(x, 0, 2, 1280, 6, 2);
        stepIs(x, 1, -1, -1, -1, -1);
        latestIs(x, 1, 0, 0, 1, 1, 1, 0, 3, 1);
    }

    private static void shiftToItself() {
        ShiftRing x = Rings.four();
        x.lookup(0, 2000, false);
        for (int k = 0; k < 6; k++) {
            stepIs(x, k, 0);
        }
        latestIs(x, 1, 6, 0, 0, 1, 6, 0, 1, 1);
    }

    /** 3072 times 4 and a letter is that letter, round. */
    private static void shiftsAreRound() {
        ShiftRing x = Rings.four();
        x.lookup(3, 2900, false);
        stepIs(x, 0, 3, 3072, 6, 0);
        stepIs(x, 1, 0, 2, 5, 0);
        stepIs(x, 2, 0, 11, 4, 0);
    }

    private static void hopsAndTime() {
        ShiftRing x = Rings.four();
        x.spot(0, 99);
        x.lookup(0, 2000, true);
        latestIs(x, 1, 1, 0, 0, 1, 1, 5, 1, 100);
        x.spot(1, 99);
        x.lookup(0, 2000, true);
        due(1, () -> x.latest(8));
        x.spot(0, 0);
        x.lookup(0, 2000, false);
        latestIs(x, 1, 6, 0, 0, 1, 6, 0, 1, 100);
        x.lookup(0, 0, true);
        due(0, () -> x.latest(8));
        // 200 hops, each but those over the end of the row from spot to spot
        ShiftRing y = Rings.laidBy(2, 1, Rings.inARow(4060, 20));
        for (int n = 0; n < 20; n += 2) {
            y.spot(n, 99);
        }
        y.lookup(2, 4061, false);
        due(200 * 100, () -> y.latest(8));
    }

    private static void spots() {
        due(0, () -> Rings.four().spot(3, 99));
        due(0, () -> Rings.four().spot(3, 0));
        Check.refused(ARGUMENT, Rings::used, x -> x.spot(3, -1));
        Check.refused(ARGUMENT, Rings::used, x -> x.spot(3, 100));
        ShiftRing x = Rings.used();
        Check.dues(n -> x.spot(n, 1), 9, 99, 0, 0, 50);
        Check.dues(n -> x.spot(n, 1), 1, 1, 1, 1, 1);
    }

    private static void right() {
        ShiftRing x = Rings.strangers();
        due(0, () -> x.lookup(0, 1, true));
        due(0, () -> x.latest(4));
        due(0, () -> x.lookup(0, 2049, true));
        due(1, () -> x.latest(4));
        ShiftRing c = Rings.cut();
        c.lookup(0, 0, true);
        due(0, () -> c.latest(4));
        ShiftRing l = Rings.losing();
        l.lookup(0, 2176, false);
        due(0, () -> l.latest(4));
    }

    private static void why() {
        ShiftRing two = Rings.two();
        two.down(1);
        two.lookup(0, 5, true);
        Check.dues(two::why, 0, 1, -1, -1);
        ShiftRing three = Rings.at(100, 200, 300);
        three.down(1);
        three.down(2);
        three.lookup(0, 5, true);
        Check.dues(three::why, 0, 2, 1, -1);
        ShiftRing five = Rings.five();
        five.down(1);
        five.down(2);
        five.down(3);
        five.lookup(0, 5, true);
        Check.dues(five::why, 0, 3, 2, 1, -1);
        due(-1, () -> five.why(-1));
        five.up(1);
        Check.dues(five::why, 0, 3, 2, 1, -1);
        five.lookup(0, 5, true);
        due(-1, () -> five.why(0));
    }

    // ==== 3. ====

    private static void stalePlaceByPlace() {
        ShiftRing x = Rings.laidBy(4, 1, 100, 200, 300, 400, 500);
        x.down(1);
        Check.dues(n -> x.node(n, 7), 3, -1, 0, 1, 2);
        due(6, () -> x.count(6));
        due(6, () -> x.mendAll());
        due(0, () -> x.count(6));
    }

    private static void staleTooManyOrTooFew() {
        ShiftRing few = Rings.joined(100, 200);
        due(3, () -> few.node(0, 7));
        due(0, () -> few.node(1, 7));
        ShiftRing many = Rings.at(100, 200);
        many.down(1);
        due(3, () -> many.node(0, 7));
        due(3, () -> many.mend(0));
        due(0, () -> many.mend(0));
        int[][] degreeAndStale = {{1, 3}, {2, 2}, {3, 1}, {4, 0}, {5, 1}, {8, 1}};
        for (int[] row : degreeAndStale) {
            ShiftRing x = Rings.five();
            x.degree(row[0]);
            due(row[1], () -> x.node(2, 7));
        }
    }

    private static void staleBase() {
        ShiftRing x = Rings.at(7);
        due(0, () -> x.node(0, 7));
        x.turn(2);
        due(1, () -> x.node(0, 7));
        x.turn(4);
        due(0, () -> x.node(0, 7));
        x.turn(16);
        due(1, () -> x.mend(0));
        due(0, () -> x.mend(0));
    }

    /** Node 0 owns nothing that it must go for but the last key of all, 4032. */
    private static void sampleKeys() {
        due(64, () -> Rings.cut().sample(true, 4));
        due(0, () -> new ShiftRing().sample(true, 4));
        ShiftRing x = Rings.at(0, 4000, 4040);
        Check.dues(k -> x.takes(0, new int[] {0, 64, 3968, 4032}[k]), 0, 0, 0, 1);
        due(4032, () -> x.worst(0));
        int sum = 0;
        for (int n = 0; n < 3; n++) {
            for (int key = 0; key <= 4032; key += 64) {
                sum += x.takes(n, key);
            }
        }
        due(sum, () -> x.sample(true, 0));
        x.down(1);
        x.down(2);
        due(64, () -> x.sample(false, 4));
    }

    private static void overlap() {
        ShiftRing x = new ShiftRing();
        int[][] placesAndOverlap = {{0, 0, 6}, {1365, 1365, 6}, {4095, 4095, 6}, {1365, 1366, 5}, {0, 1, 5},
            {1, 0, 0}, {0, 4095, 0}, {4095, 0, 0}, {1, 1024, 1}, {1364, 1365, 0}, {1024, 0, 5}, {273, 273, 6},
            {273, 1092, 5}, {1092, 273, 5}, {4094, 2730, 1}};
        for (int[] row : placesAndOverlap) {
            due(row[2], () -> x.overlap(row[0], row[1]));
        }
        for (int[] pair : BASES_WITH_LETTERS) {
            x.turn(pair[0]);
            due(pair[1], () -> x.overlap(0, 0));
            due(pair[1], () -> x.overlap(4095, 4095));
            due(pair[1] - 1, () -> x.overlap(0, 1));
            due(0, () -> x.overlap(1, 0));
            due(0, () -> x.overlap(0, 4095));
        }
    }

    private static void shifts() {
        ShiftRing x = new ShiftRing();
        for (int[] pair : BASES_WITH_LETTERS) {
            x.turn(pair[0]);
            due(-1, () -> x.shifted(0, 4095, -1));
            due(0, () -> x.shifted(0, 4095, 0));
            due(pair[0] - 1, () -> x.shifted(0, 4095, 1));
            due(4095, () -> x.shifted(0, 4095, pair[1]));
            due(-1, () -> x.shifted(0, 4095, pair[1] + 1));
            due(5, () -> x.shifted(5, 5, 0));
            due(-1, () -> x.shifted(5, 5, 1));
            due(-1, () -> x.shifted(5, 5, -1));
            due(0, () -> x.shifted(0, 1, 0));
            due(1, () -> x.shifted(0, 1, 1));
            due(-1, () -> x.shifted(0, 1, 2));
        }
    }

    /** 2 knows 1 alone, and 1 knows 0. */
    private static ShiftRing chain() {
        ShiftRing x = Rings.joined(100, 200);
        x.down(0);
        x.join(300);
        x.up(0);
        return x;
    }

    private static void far() {
        ShiftRing x = chain();
        Check.dues(n -> x.far(n, n), 0, 0, 0);
        due(1, () -> x.far(2, 1));
        due(2, () -> x.far(2, 0));
        due(1, () -> x.far(0, 2));
        x.down(1);
        due(-1, () -> x.far(2, 0));
        due(0, () -> x.far(2, 2));
        Check.refused(STATE, () -> x.far(1, 1));
        due(-1, () -> Rings.strangers().far(0, 1));
        due(1, () -> Rings.strangers().far(1, 0));
        due(0, () -> Rings.at(7).far(0, 0));
    }

    private static void apart() {
        ShiftRing x = chain();
        due(1, () -> x.apart(2, 0));
        due(1, () -> x.apart(2, 1));
        x.down(1);
        due(0, () -> x.apart(2, 0));
        due(0, () -> Rings.strangers().apart(0, 1));
        due(1, () -> Rings.strangers().apart(1, 0));
        due(1, () -> Rings.two().apart(0, 1));
        due(2, () -> Rings.at(100, 200, 300).apart(0, 2));
        due(3, () -> Rings.four().apart(3, 1));
        // links of node 0: 3, 1, 4; 3 and 4 have 1
        due(3, () -> Rings.laidBy(8, 4, 1200, 2400, 3500, 2100, 2500).apart(0, 1));
        // 0 to 3; 0, 4, 3; 0, 1, 2, 3
        due(3, () -> Rings.laidBy(2, 3, 100, 2000, 2500, 1700, 500).apart(0, 3));
        // 1 to 2; 1, 5, 2; 1, 0, 2; from 3, the last link of 1, one comes to 5 and 0 alone
        due(3, () -> Rings.laidBy(4, 3, 1000, 4000, 1200, 3000, 2200, 200).apart(1, 2));
        // 2, 3, 5; 2, 4, 0, 5; 2, 1, 6, 5: 2, 1, 0, 5 would leave nothing for 4
        due(3, () -> Rings.laidBy(4, 1, 2000, 1300, 3200, 1900, 900, 2200, 2100).apart(2, 5));
        Check.refused(ARGUMENT, Rings::four, y -> y.apart(3, 3));
    }

    private static void width() {
        due(0, () -> new ShiftRing().count(5));
        due(0, () -> Rings.at(7).count(5));
        due(1, () -> Rings.two().count(5));
        due(-1, () -> Rings.strangers().count(5));
        ShiftRing x = chain();
        due(2, () -> x.count(5));
        x.down(1);
        due(-1, () -> x.count(5));
        x.down(0);
        due(0, () -> x.count(5));
        x.down(2);
        due(0, () -> x.count(5));
    }

    private static void cost() {
        due(0, () -> new ShiftRing().cost(2, 1));
        due(0, () -> Rings.at(7).cost(16, 8));
        due(62, () -> Rings.strangers().cost(2, 1));
        ShiftRing x = Rings.two();
        x.down(0);
        due(0, () -> x.cost(8, 8));
        for (int[] pair : BASES_WITH_LETTERS) {
            for (int degree : new int[] {1, 8}) {
                ShiftRing laid = Rings.full();
                laid.turn(pair[0]);
                laid.degree(degree);
                laid.mendAll();
                due(laid.sample(true, 0), () -> Rings.full().cost(pair[0], degree));
            }
        }
    }

    private static void choice() {
        due(201, () -> new ShiftRing().choice(4));
        due(201, () -> new ShiftRing().choice(11));
        due(201, () -> Rings.two().choice(4));
        due(201, () -> Rings.two().choice(11));
        Check.Maker[] makers = {Rings::full, Rings::used, () -> Rings.at(2400, 700, 3200),
            () -> Rings.at(4000, 1700, 2900), () -> Rings.at(3100, 1100, 3700, 500, 2000, 1700)};
        for (Check.Maker maker : makers) {
            for (int links = 4; links <= 11; links++) {
                int most = links;
                due(cheapest(maker, most - 3), () -> maker.make().choice(most));
            }
        }
        due(801, () -> Rings.at(2400, 700, 3200).choice(4));
        due(1602, () -> Rings.at(2400, 700, 3200).choice(5));
        due(1601, () -> Rings.at(4000, 1700, 2900).choice(4));
        due(802, () -> Rings.at(4000, 1700, 2900).choice(5));
        Check.refused(ARGUMENT, Rings::four, x -> x.choice(3));
        Check.refused(ARGUMENT, Rings::four, x -> x.choice(12));
    }

    private static int cheapest(Check.Maker maker, int mostDegree) {
        ShiftRing x = maker.make();
        int found = 0;
        int least = Integer.MAX_VALUE;
        for (int degree = 1; degree <= mostDegree; degree++) {
            for (int base = 2; base <= 16; base *= 2) {
                int cost = x.cost(base, degree);
                if (cost < least) {
                    least = cost;
                    found = 100 * base + degree;
                }
            }
        }
        return found;
    }

    private static void harm() {
        due(0, () -> Rings.at(7).node(0, 10));
        due(64, () -> Rings.two().node(0, 10));
        due(64, () -> Rings.two().node(1, 10));
        // node 0 does not know of node 1, so it finds all itself: nothing is wrong without 1
        due(0, () -> Rings.strangers().node(1, 10));
        due(64, () -> Rings.strangers().node(0, 10));
        ShiftRing x = Rings.two();
        x.down(0);
        due(-1, () -> x.node(0, 10));
        due(0, () -> x.node(1, 10));
        due(0, () -> Rings.four().node(2, 10));
        for (Check.Maker maker : OLD_AND_NEW) {
            int nodes = maker.make().count(0);
            for (int n = 0; n < nodes; n++) {
                int node = n;
                ShiftRing without = maker.make();
                without.down(node);
                due(without.sample(true, 4), () -> maker.make().node(node, 10));
            }
        }
    }

    /** Rings of several bases and degrees, mended or not, all of whose nodes are up. */
    private static final Check.Maker[] OLD_AND_NEW = {
        () -> Rings.laidBy(2, 5, 4000, 3900, 700, 1000),
        () -> Rings.laidBy(2, 5, 100, 2200, 3600),
        () -> Rings.laidBy(4, 2, 3700, 100, 2000),
        () -> Rings.joinedBy(16, 6, 3400, 300, 800, 3900, 900),
        () -> Rings.joinedBy(8, 4, 3300, 1700, 500, 3500),
        () -> Rings.joinedBy(16, 1, 2000, 2300, 2400, 3200, 2100, 600)};

    private static void load() {
        due(4096, () -> Rings.at(7).node(0, 9));
        due(4095, () -> Rings.at(7, 8).node(0, 9));
        due(1, () -> Rings.at(7, 8).node(1, 9));
        ShiftRing x = Rings.at(7, 8);
        x.down(0);
        due(-1, () -> x.node(0, 9));
        due(4096, () -> x.node(1, 9));
    }

    private static void host() {
        ShiftRing x = Rings.at(100, 200);
        Check.dues(k -> x.host(new int[] {99, 100, 199, 200, 201, 4095, 0}[k]), 1, 0, 0, 1, 1, 1, 1);
        x.down(1);
        due(0, () -> x.host(200));
        due(0, () -> x.host(99));
        x.down(0);
        due(-1, () -> x.host(100));
    }

    /** From node 0 the key 2112 (201000) starts at 528 (020100): one shift, to the host of 2112. */
    private static void ideal() {
        due(0, () -> Rings.at(7).ideal(0, 7));
        due(0, () -> Rings.at(7).ideal(0, 8));
        ShiftRing x = Rings.two();
        due(0, () -> x.ideal(0, 0));
        due(1, () -> x.ideal(0, 1));
        due(1, () -> x.ideal(0, 2047));
        due(1, () -> x.ideal(0, 2048));
        due(2, () -> x.ideal(0, 2112));
        due(0, () -> x.ideal(1, 2048));
        due(1, () -> x.ideal(1, 4095));
        due(1, () -> x.ideal(1, 0));
        Check.refused(STATE, Rings::cut, y -> y.ideal(0, 0));
    }

    private static void first() {
        due(-1, () -> new ShiftRing().count(10));
        due(0, () -> Rings.four().count(10));
        ShiftRing x = Rings.four();
        x.down(0);
        due(1, () -> x.mendAll() > 0 ? x.count(10) : -9);
        // 0 has no link, so none of its lookups has a hop, until it is mended: best is another one
        due(1, () -> Rings.strangers().count(10));
        x.down(1);
        x.down(2);
        x.down(3);
        due(-1, () -> x.count(10));
        for (Check.Maker maker : OLD_AND_NEW) {
            due(bestMended(maker), () -> maker.make().count(10));
        }
        // by the mend of each 291, 201, 254, 201 hops
        due(1, () -> Rings.joinedBy(8, 1, 2300, 300, 3600, 200).count(10));
    }

    private static int bestMended(Check.Maker maker) {
        int nodes = maker.make().count(0);
        int found = -1;
        int least = Integer.MAX_VALUE;
        for (int n = 0; n < nodes; n++) {
            ShiftRing x = maker.make();
            x.mend(n);
            int hops = x.sample(true, 0);
            if (hops < least) {
                least = hops;
                found = n;
            }
        }
        return found;
    }

    private static void takes() {
        due(0, () -> Rings.two().takes(0, 0));
        due(0, () -> Rings.two().takes(0, 2048));
        due(1, () -> Rings.two().takes(0, 2049));
        due(-1, () -> Rings.strangers().takes(0, 2048));
        due(-1, () -> Rings.cut().takes(0, 0));
        due(-1, () -> Rings.losingBest().takes(1, 2688));
        due(-2, () -> Rings.cut().lookup(0, 0, true));
    }

    private static void worst() {
        due(0, () -> Rings.at(7).worst(0));
        due(2112, () -> Rings.two().worst(0));
        due(64, () -> Rings.two().worst(1));
        due(-1, () -> Rings.cut().worst(0));
        // node 0 knows no other one: right are its lookups of 0 and of what is behind 2048, without a hop
        due(0, () -> Rings.strangers().worst(0));
        ShiftRing x = Rings.joined(2049, 2050);
        due(0, () -> x.worst(0));
    }

    private static void traffic() {
        due(0, () -> Rings.at(7).traffic(0));
        due(31, () -> Rings.two().traffic(0));
        due(31, () -> Rings.two().traffic(1));
        due(0, () -> Rings.cut().traffic(0));
        // from plain starts 154, 100, 107, 15 would come
        Check.dues(n -> Rings.laidBy(16, 3, 2700, 3900, 1500, 1200).traffic(n), 54, 71, 75, 15);
        // steps to itself are no hops; one that comes again and again counts once
        ShiftRing x = Rings.losingBest();
        int[] came = new int[5];
        for (int n = 1; n < 5; n++) {
            for (int key = 0; key <= 4032; key += 64) {
                int bits = comesTo(n, key);
                for (int m = 0; m < 5; m++) {
                    came[m] += bits >> m & 1;
                }
            }
        }
        for (int n = 1; n < 5; n++) {
            int node = n;
            due(came[n], () -> x.traffic(node));
        }
    }

    /** The nodes, as bits, to which a lookup comes by a hop. */
    private static int comesTo(int node, int key) {
        ShiftRing x = Rings.losingBest();
        x.lookup(node, key, true);
        int steps = x.latest(5);
        int at = node;
        int bits = 0;
        for (int k = 1; k <= steps; k++) {
            int to = k < steps ? x.step(k, 0) : x.latest(7);
            bits |= at == to ? 0 : 1 << to;
            at = to;
        }
        return bits;
    }

    private static void detour() {
        due(0, () -> new ShiftRing().detour(0));
        due(0, () -> Rings.cut().detour(0));
        due(0, () -> Rings.at(7).detour(7));
        due(-1, () -> Rings.two().detour(2048));
        due(-4, () -> Rings.four().detour(2000));
        // of 1 node 0 finds itself, which is wrong, as does node 1: none counts
        due(0, () -> Rings.strangers().detour(1));
    }

    private static void gap() {
        due(0, () -> new ShiftRing().count(14));
        due(0, () -> Rings.at(7).count(14));
        due(0, () -> Rings.two().count(14));
        due(4094, () -> Rings.at(7, 8).count(14));
        due(4094, () -> Rings.at(8, 7).count(14));
        ShiftRing x = Rings.at(7, 8);
        x.down(1);
        due(0, () -> x.count(14));
        x.down(0);
        due(0, () -> x.count(14));
    }

    private static void splitIn(int at, int owns, int leaves, int node, int... places) {
        ShiftRing x = Rings.at(places);
        due(at, () -> x.count(15));
        x.join(at);
        due(owns, () -> x.node(places.length, 9));
        due(leaves, () -> x.node(node, 9));
    }

    private static void split() {
        splitIn(2055, 2048, 2048, 0, 7);
        splitIn(2051, 2047, 2048, 0, 3, 4);
        splitIn(2059, 2046, 2047, 0, 10, 11, 13);
        splitIn(3584, 512, 512, 0, 0, 1024, 2048, 3072);
        splitIn(2047, 2047, 2048, 1, 0, 4095);
        splitIn(1024, 1024, 1024, 0, 2048, 0);
    }

    private static void noSplit() {
        due(-1, () -> new ShiftRing().count(15));
        ShiftRing x = Rings.two();
        x.down(0);
        due(-1, () -> x.count(15));
        x.down(1);
        due(-1, () -> x.count(15));
        ShiftRing y = Rings.at(0, 2047);
        y.down(1);
        due(2048, () -> y.count(15));
    }

    private static void enough() {
        due(1, () -> new ShiftRing().enough(1));
        due(1, () -> Rings.at(7).enough(1));
        due(1, () -> Rings.two().enough(1));
        due(-1, () -> Rings.full().enough(1));
        due(1, () -> Rings.full().enough(200));
        for (int hops = 1; hops <= 10; hops++) {
            int most = hops;
            due(leastDegree(most), () -> Rings.full().enough(most));
        }
        Check.refused(ARGUMENT, Rings::four, x -> x.enough(0));
        Check.refused(ARGUMENT, Rings::four, x -> x.enough(201));
    }

    private static int leastDegree(int hops) {
        for (int degree = 1; degree <= 8; degree++) {
            ShiftRing x = Rings.full();
            x.degree(degree);
            x.mendAll();
            if (x.sample(true, 5) <= hops) {
                return degree;
            }
        }
        return -1;
    }

    // ==== 4. values ====

    private static void copies() {
        due(2, () -> new ShiftRing().copies(1));
        due(2, () -> new ShiftRing().copies(3));
        for (int copies = 1; copies <= 3; copies++) {
            ShiftRing x = Rings.four();
            int many = copies;
            x.copies(many);
            due(many, () -> x.put(0, 5, 5));
            due(many, () -> Integer.bitCount(x.about(5, 0)));
            due(many, () -> Integer.bitCount(x.about(5, 1)));
        }
        Check.refused(ARGUMENT, Rings::used, x -> x.copies(0));
        Check.refused(ARGUMENT, Rings::used, x -> x.copies(4));
    }

    private static void keysKnown() {
        ShiftRing x = Rings.four();
        for (int k = 0; k < 32; k++) {
            int at = k;
            due(at, () -> x.count(11));
            due(2, () -> x.put(0, 100 * at, at));
        }
        due(32, () -> x.count(11));
        Check.refused(STATE, Rings::crammed, y -> y.put(0, 4095, 1));
        due(2, () -> x.put(0, 3100, 999));
        due(2, () -> x.put(0, 0, 999));
        due(32, () -> x.count(11));
        due(34, () -> x.count(13));
    }

    private static void values() {
        ShiftRing x = Rings.four();
        x.put(0, 5, 0);
        due(0, () -> x.get(0, 5));
        x.put(0, 5, 999);
        due(999, () -> x.get(0, 5));
        Check.refused(ARGUMENT, Rings::used, y -> y.put(0, 100, -1));
        Check.refused(ARGUMENT, Rings::used, y -> y.put(0, 100, 1000));
    }

    private static void holdsThoughDown() {
        ShiftRing x = Rings.four();
        x.put(0, 5, 77);
        x.down(1);
        due(77, () -> x.held(1, 5, 0));
        due(1, () -> x.held(1, 5, 1));
        due(6, () -> x.about(5, 1));
        x.up(1);
        due(77, () -> x.held(1, 5, 0));
    }

    private static void putAtFewer() {
        ShiftRing one = Rings.at(7);
        one.copies(3);
        due(1, () -> one.put(0, 5, 5));
        ShiftRing two = Rings.two();
        two.copies(3);
        due(2, () -> two.put(0, 5, 5));
        // it ends with 1, whose successors are 2, 3, 0
        ShiftRing four = Rings.four();
        four.copies(3);
        four.down(2);
        due(3, () -> four.put(0, 5, 5));
        due(0b1011, () -> four.about(5, 1));
        four.down(3);
        due(2, () -> four.put(0, 5, 5));
        due(0b0011, () -> four.about(5, 1));
        due(0b1000, () -> four.about(5, 2));
        ShiftRing copiesOne = Rings.four();
        copiesOne.copies(1);
        copiesOne.down(2);
        due(1, () -> copiesOne.put(0, 5, 5));
        due(0b0010, () -> copiesOne.about(5, 1));
    }

    private static void versions() {
        ShiftRing x = Rings.four();
        x.put(0, 5, 1);
        x.put(0, 6, 1);
        x.put(0, 5, 1);
        due(3, () -> x.held(1, 5, 1));
        due(2, () -> x.held(1, 6, 1));
        due(3, () -> x.about(5, 3));
        due(2, () -> x.about(6, 3));
        due(0, () -> x.about(7, 3));
        Check.refused(ARGUMENT, () -> x.put(0, 5, 1000));
        due(3, () -> x.count(13));
    }

    private static void getOfOthers() {
        ShiftRing x = Rings.four();
        due(-1, () -> x.get(0, 5));
        x.copies(1);
        x.put(0, 2000, 5);
        // a new node is the owner; 2, the first of its successors, holds it
        x.join(2010);
        x.mendAll();
        due(5, () -> x.get(0, 2000));
        x.down(2);
        due(-1, () -> x.get(0, 2000));
        // the last one of three successors holds it, then one that is no successor
        ShiftRing y = Rings.at(100, 200, 300, 1000);
        y.copies(1);
        y.put(0, 999, 8);
        y.join(900);
        y.join(800);
        y.mendAll();
        due(5, () -> y.owner(700));
        due(8, () -> y.get(0, 999));
        y.put(0, 700, 3);
        y.join(600);
        y.join(500);
        y.mendAll();
        due(6, () -> y.owner(550));
        due(3, () -> y.get(0, 700));
        y.down(5);
        due(-1, () -> y.get(0, 700));
    }

    /** It holds none, its first successor none, the second one a value, the third another one. */
    private static void getOfTheFirstThatHolds() {
        ShiftRing x = Rings.at(100, 2000, 3000);
        x.copies(1);
        x.put(0, 1500, 1);
        x.down(1);
        x.put(0, 1500, 2);
        x.up(1);
        x.join(1600);
        x.join(1700);
        x.mendAll();
        successorsAre(x, 3, 4, 1, 2);
        due(1, () -> x.get(0, 1500));
        x.down(1);
        due(2, () -> x.get(0, 1500));
    }

    private static void keepers() {
        due(0, () -> new ShiftRing().about(5, 0));
        ShiftRing x = Rings.four();
        due(0b0110, () -> x.about(5, 0));
        due(0b0110, () -> x.about(1024, 0));
        due(0b1100, () -> x.about(1025, 0));
        due(0b1001, () -> x.about(3072, 0));
        due(0b0011, () -> x.about(4095, 0));
        due(0b011, () -> Rings.at(7, 8, 9).about(7, 0));
        due(0b101, () -> Rings.at(4095, 10, 0).about(4095, 0));
        x.copies(3);
        due(0b1110, () -> x.about(5, 0));
        x.down(2);
        due(0b1011, () -> x.about(5, 0));
        x.down(0);
        due(0b1010, () -> x.about(5, 0));
        x.down(1);
        due(0b1000, () -> x.about(5, 0));
        x.down(3);
        due(0, () -> x.about(5, 0));
    }

    private static void settle() {
        due(0, () -> Rings.four().settle(0));
        // it is a keeper; the other two hold none
        ShiftRing x = Rings.four();
        x.copies(1);
        x.put(0, 5, 9);
        x.copies(3);
        due(2, () -> x.settle(1));
        due(0b1110, () -> x.about(5, 1));
        due(0, () -> x.settle(1));
        due(0, () -> x.settle(2));
        // it is no keeper any more: it holds none then, and others do not change
        x.copies(1);
        due(1, () -> x.settle(3));
        due(-1, () -> x.held(3, 5, 0));
        due(0b0110, () -> x.about(5, 1));
        due(0, () -> x.settle(3));
        // an older version is no gift, and one that is no keeper loses it
        ShiftRing y = Rings.four();
        y.put(0, 5, 1);
        y.down(2);
        y.put(0, 5, 2);
        y.up(2);
        y.copies(1);
        due(1, () -> y.settle(2));
        due(2, () -> y.held(1, 5, 0));
        due(0, () -> y.about(5, 2));
        // node 0 comes back and is the only keeper
        ShiftRing z = Rings.four();
        z.copies(1);
        z.down(0);
        z.put(3, 4000, 6);
        z.up(0);
        due(0b0010, () -> z.about(4000, 1));
        due(2, () -> z.settle(1));
        due(0b0001, () -> z.about(4000, 1));
        due(6, () -> z.held(0, 4000, 0));
        Check.refused(STATE, Rings::used, u -> u.settle(4));
    }

    private static void settleKeyByKey() {
        ShiftRing x = Rings.at(1000);
        x.copies(1);
        x.put(0, 900, 1);
        x.put(0, 100, 2);
        x.put(0, 500, 3);
        x.join(500);
        x.copies(2);
        due(3, () -> x.settle(0));
        Check.dues(k -> x.held(1, new int[] {900, 100, 500}[k], 0), 1, 2, 3);
        Check.dues(k -> x.held(1, new int[] {900, 100, 500}[k], 1), 1, 2, 3);
        x.copies(1);
        due(2, () -> x.settle(0));
        due(0b01, () -> x.about(500, 1) >> 1);
        due(0b11, () -> x.about(900, 1));
        due(1, () -> x.settle(1));
        due(0b01, () -> x.about(900, 1));
        due(3, () -> x.count(11));
        due(0, () -> x.count(12));
    }

    public static void main(String[] args) {
        Check.sentence("PLACES 0 to 4095", TermsTest::places);
        Check.sentence("round (behind 4095 comes 0)", TermsTest::placesAreRound);
        Check.sentence("BASE 2, 4 (at first), 8 or 16", TermsTest::base);
        Check.sentence("LETTERS 12, 6, 4 or 3 by it", TermsTest::letters);
        Check.sentence("its figures in that BASE, the highest first", TermsTest::highestFirst);
        Check.sentence("from a to b: 0 to 4095", TermsTest::fromAToB);
        Check.sentence("NODES, at most 24", TermsTest::atMost24);
        Check.sentence("each at a PLACE of its own", TermsTest::placeOfItsOwn);
        Check.sentence("numbered from 0 on as they came, UP or DOWN", TermsTest::numbered);
        Check.sentence("OWNER: the first UP NODE from it on (with it)", TermsTest::ownerOfKey);
        Check.sentence("SUCCESSORS: the next UP NODES behind it, 3 at most, not itself", TermsTest::successors);
        Check.sentence("POINTERS: DEGREE (1 to 8; 4 at first) UP NODES at most", TermsTest::pointersByDegree);
        Check.sentence("HINGE, the last one from its PLACE times BASE (modulo 4096) back (with it)", TermsTest::hinge);
        Check.sentence("the next ones behind that, each once (it itself may be one)", TermsTest::pointersOnceEach);
        Check.sentence("LAID when the NODE comes, by what is UP then", TermsTest::laidWhenItComes);
        Check.sentence("LAID when it goes UP, by what is UP then (itself, too)", TermsTest::laidWhenItGoesUp);
        Check.sentence("LAID when it is MENDED; of all that are UP", TermsTest::laidWhenMended);
        Check.sentence("TABLES stay as they were LAID", TermsTest::tablesStay);
        Check.sentence("LINKS: SUCCESSORS or POINTERS of it, but itself", TermsTest::linksButItself);

        Check.sentence("NEXT: the first of its SUCCESSORS that is UP", TermsTest::next);
        Check.sentence("without any SUCCESSOR it is itself", TermsTest::nextIsItself);
        Check.sentence("ARC: from it (with it) to NEXT (without it)", TermsTest::arc);
        Check.sentence("all, if NEXT is itself", TermsTest::arcIsAll);
        Check.sentence("PLAIN: I is the NODE's PLACE, LEFT all", TermsTest::plainStart);
        Check.sentence("BEST: of all PLACES of its ARC", TermsTest::bestStart);
        Check.sentence("of several the first from the NODE on", TermsTest::bestStartOfSeveral);
        Check.sentence("where all its SUCCESSORS are DOWN, as PLAIN", TermsTest::startWhereAllAreDown);
        Check.sentence("are all SUCCESSORS DOWN (it has some), the LOOKUP is CUT there", TermsTest::cutThere);
        Check.sentence("is the KEY its PLACE, it ENDS with it", TermsTest::endsWithItself);
        Check.sentence("another one of its ARC, or the PLACE of NEXT, it ENDS with NEXT", TermsTest::endsWithNext);
        Check.sentence("else, were there 200 STEPS, it is LOST there", TermsTest::lost);
        Check.sentence("is the BASE of its TABLE another one: BRIDGE", TermsTest::bridgeFromAnOldBase);
        Check.sentence("if I is in its ARC and LEFT is above 0: SHIFT", TermsTest::shiftInTheArc);
        Check.sentence("else WALK", TermsTest::walkWithNothingLeft);
        Check.sentence("UP and not farther from HINGE on than I is: the last one", TermsTest::notFartherThanI);
        Check.sentence("HINGE's PLACE, though it is DOWN", TermsTest::hingeThoughItIsDown);
        Check.sentence("is there none, BRIDGE", TermsTest::bridgeWithoutAPointer);
        Check.sentence("it may be the NODE itself", TermsTest::shiftToItself);
        Check.sentence("I times BASE and the next LETTER (modulo 4096)", TermsTest::shiftsAreRound);
        Check.sentence("HOPS lead to another NODE; TIME of each HOP", TermsTest::hopsAndTime);
        Check.sentence("SPOTS (0 to 99, 0 at first)", TermsTest::spots);
        Check.sentence("RIGHT, if it ENDS with the OWNER", TermsTest::right);
        Check.sentence("WHY it is CUT: from the last one on back", TermsTest::why);

        Check.sentence("STALE: place by place in each row", TermsTest::stalePlaceByPlace);
        Check.sentence("one too many or too few is one, too", TermsTest::staleTooManyOrTooFew);
        Check.sentence("and 1 more, if its BASE is another one", TermsTest::staleBase);
        Check.sentence("SAMPLE: KEYS 0, 64, .. 4032 from each UP NODE", TermsTest::sampleKeys);
        Check.sentence("OVERLAP: the most, not all of both unless they are one", TermsTest::overlap);
        Check.sentence("SHIFTS: LETTERS less OVERLAP", TermsTest::shifts);
        Check.sentence("FAR: LINKS to UP NODES, each of an UP one; none", TermsTest::far);
        Check.sentence("APART: the LINK itself is one way", TermsTest::apart);
        Check.sentence("WIDTH: none, if some is not come to", TermsTest::width);
        Check.sentence("COST: were all UP NODES LAID by these now", TermsTest::cost);
        Check.sentence("CHOICE: 3 and DEGREE no more; the least DEGREE, then BASE", TermsTest::choice);
        Check.sentence("HARM: from the other UP NODES", TermsTest::harm);
        Check.sentence("LOAD: KEYS that it owns", TermsTest::load);
        Check.sentence("HOST: the last UP NODE from it back (with it)", TermsTest::host);
        Check.sentence("IDEAL: one more, if the OWNER is not the last of these", TermsTest::ideal);
        Check.sentence("FIRST: of several the least; none without an UP one", TermsTest::first);
        Check.sentence("TAKES: none, if it is not RIGHT", TermsTest::takes);
        Check.sentence("WORST: of several the least; none, if none is RIGHT", TermsTest::worst);
        Check.sentence("TRAFFIC: LOOKUPS that come to it by a HOP", TermsTest::traffic);
        Check.sentence("DETOUR: none of those that are not RIGHT", TermsTest::detour);
        Check.sentence("GAP: the greatest LOAD less the least one", TermsTest::gap);
        Check.sentence("SPLIT: as many KEYS as it left, or one less; of several the least", TermsTest::split);
        Check.sentence("SPLIT: none without an UP one, and if that PLACE is taken", TermsTest::noSplit);
        Check.sentence("ENOUGH: no LOOKUP has more; none", TermsTest::enough);

        Check.sentence("COPIES 1 to 3 (2 at first)", TermsTest::copies);
        Check.sentence("KEYS that were PUT are known, 32 at most", TermsTest::keysKnown);
        Check.sentence("a VALUE 0 to 999", TermsTest::values);
        Check.sentence("also if it is DOWN", TermsTest::holdsThoughDown);
        Check.sentence("the first UP ones of its SUCCESSORS, COPIES in all at most", TermsTest::putAtFewer);
        Check.sentence("its VERSION being how many PUTS there were", TermsTest::versions);
        Check.sentence("GET: if none, SUCCESSORS", TermsTest::getOfOthers);
        Check.sentence("GET: the first that is UP and HOLDS one", TermsTest::getOfTheFirstThatHolds);
        Check.sentence("KEEPERS: COPIES in all at most", TermsTest::keepers);
        Check.sentence("SETTLE: none, or an older VERSION; is it no KEEPER", TermsTest::settle);
        Check.sentence("SETTLE: KEY by KEY", TermsTest::settleKeyByKey);
        Check.end();
    }
}
