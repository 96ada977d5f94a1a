/** What the promises themselves say of edges: NONE, ties, what a call changes and what it does not. */
public final class EdgeTest {
    private static final Class<?> STATE = Check.STATE;
    private static final int MIN = Integer.MIN_VALUE;
    private static final int MAX = Integer.MAX_VALUE;

    private static void due(int want, Check.Call call) {
        Check.due(want, call);
    }

    private static ShiftRing allDown() {
        ShiftRing x = Rings.used();
        for (int n = 0; n < 4; n++) {
            x.down(n);
        }
        return x;
    }

    /** Parts of the state that are the same with two rings. */
    private static void same(Check.Maker want, Check.Maker got, int... parts) {
        for (int part : parts) {
            Check.sameState(part, want.make(), got.make());
        }
    }

    private static Check.Maker then(Check.Maker maker, Check.Asked call) {
        return () -> {
            ShiftRing x = maker.make();
            call.of(x);
            return x;
        };
    }

    /** The ring behind a call that is refused. */
    private static Check.Maker thenRefused(Check.Maker maker, Check.Asked call) {
        return () -> {
            ShiftRing x = maker.make();
            Check.refused(STATE, () -> call.of(x));
            return x;
        };
    }

    // ---- promises 1 to 9 ----

    private static void newObject() {
        ShiftRing x = new ShiftRing();
        Check.dues(x::count, 0, 0, 4, 4, 6, 0, 0, -1, -1, 0, -1, 0, 0, 0, 0, -1, -1);
        due(2, () -> x.copies(2));
        due(0, () -> x.mendAll());
        due(-1, () -> x.owner(0));
        due(-1, () -> x.host(0));
        due(-1, () -> x.nearest(0));
        due(-1, () -> x.quickest(0));
        due(-1, () -> ShiftRing.NONE);
    }

    private static void objectsOfTheirOwn() {
        ShiftRing x = new ShiftRing();
        ShiftRing y = new ShiftRing();
        x.join(7);
        x.turn(8);
        x.degree(1);
        x.copies(1);
        x.put(0, 5, 5);
        Check.dues(y::count, 0, 0, 4, 4, 6);
        due(0, () -> y.join(7));
        due(-1, () -> y.held(0, 5, 0));
        due(2, () -> y.copies(2));
        due(-1, () -> y.latest(7));
    }

    private static void howManyAreUp() {
        ShiftRing x = Rings.at(100, 200, 300);
        due(2, () -> x.down(2));
        due(1, () -> x.down(0));
        due(0, () -> x.down(1));
        Check.refused(STATE, () -> x.down(1));
        due(1, () -> x.up(1));
        due(2, () -> x.up(0));
        due(3, () -> x.up(2));
        Check.refused(STATE, () -> x.up(2));
        due(3, () -> x.count(1));
        ShiftRing f = Rings.full();
        due(23, () -> f.down(0));
        due(24, () -> f.up(0));
    }

    private static void staleAheadOfIt() {
        ShiftRing x = Rings.joined(100, 200);
        due(3, () -> x.mend(0));
        due(0, () -> x.mend(0));
        due(0, () -> x.mend(1));
        x.down(0);
        x.down(1);
        due(0, () -> x.mendAll());
        due(0, () -> x.count(6));
        x.turn(2);
        x.up(0);
        due(0, () -> x.mendAll());
        due(2, () -> x.node(0, 2));
        due(4, () -> x.node(1, 2));
    }

    private static void whatItWas() {
        ShiftRing x = Rings.four();
        due(4, () -> x.turn(16));
        due(16, () -> x.turn(16));
        due(16, () -> x.turn(2));
        due(4, () -> x.degree(8));
        due(8, () -> x.degree(8));
        due(8, () -> x.degree(1));
        due(0, () -> x.spot(0, 99));
        due(99, () -> x.spot(0, 99));
        due(99, () -> x.spot(0, 0));
        due(2, () -> x.copies(3));
        due(3, () -> x.copies(3));
        due(3, () -> x.copies(1));
    }

    private static void whatChangesAndWhatDoesNot() {
        Check.Maker maker = Rings::used;
        same(maker, then(maker, x -> x.join(4095)), State.VALUES, State.LATEST);
        same(maker, then(maker, x -> x.down(0)), State.LINKS, State.VALUES, State.LATEST);
        same(maker, then(maker, x -> x.up(4)), State.VALUES, State.LATEST);
        same(maker, then(maker, x -> x.mend(3)), State.VALUES, State.LATEST);
        same(maker, then(maker, x -> x.mendAll()), State.VALUES, State.LATEST);
        same(maker, then(maker, x -> x.turn(2)), State.LINKS, State.VALUES, State.LATEST);
        same(maker, then(maker, x -> x.degree(8)), State.LINKS, State.VALUES, State.LATEST);
        same(maker, then(maker, x -> x.spot(0, 40)), State.LINKS, State.VALUES, State.LATEST);
        same(maker, then(maker, x -> x.copies(1)), State.LINKS, State.VALUES, State.LATEST);
        same(maker, then(maker, x -> x.lookup(3, 1500, true)), State.NODES, State.LINKS, State.VALUES);
        same(maker, then(maker, x -> x.get(3, 1500)), State.NODES, State.LINKS, State.VALUES);
        same(maker, then(maker, x -> x.put(3, 100, 5)), State.LINKS);
        same(maker, then(maker, x -> x.settle(0)), State.LINKS, State.LATEST);
    }

    // ---- promises 10 to 13 ----

    private static void aheadOfAnyLookup() {
        ShiftRing x = Rings.four();
        Check.dues(x::latest, 0, 0, 0, 0, 0, 0, 0, -1, 0);
        Check.dues(what -> x.step(0, what), -1, -1, -1, -1);
        due(-1, () -> x.why(0));
        x.takes(0, 2000);
        x.sample(true, 0);
        x.nearest(5);
        x.worst(1);
        x.ideal(0, 2000);
        Check.dues(x::latest, 0, 0, 0, 0, 0, 0, 0, -1, 0);
    }

    private static void latestOfThree() {
        for (int key : new int[] {0, 5, 2000, 3100, 4095}) {
            Check.Maker looked = then(Rings::four, x -> x.lookup(1, key, true));
            same(looked, then(Rings::four, x -> x.get(1, key)), State.LATEST);
            same(looked, then(Rings::four, x -> x.put(1, key, 1)), State.LATEST);
        }
    }

    private static void latestStaysAsItWas() {
        Check.Maker cut = then(Rings::cut, x -> x.lookup(0, 5, true));
        same(cut, then(cut, x -> x.up(1)), State.LATEST);
        same(cut, then(cut, x -> x.mend(0)), State.LATEST);
        same(cut, then(cut, x -> x.turn(16)), State.LATEST);
        Check.Maker looked = then(Rings::four, x -> x.lookup(0, 2000, true));
        same(looked, then(looked, x -> x.down(1)), State.LATEST);
        same(looked, then(looked, x -> x.spot(1, 99)), State.LATEST);
        same(looked, then(looked, x -> x.join(2000)), State.LATEST);
        same(looked, then(looked, x -> x.turn(16)), State.LATEST);
    }

    private static void stepsThereAre() {
        ShiftRing x = Rings.four();
        x.lookup(0, 2000, false);
        due(6, () -> x.latest(5));
        for (int what = 0; what <= 3; what++) {
            int w = what;
            due(-1, () -> x.step(-1, w));
            due(1, () -> x.step(5, w) >= 0 ? 1 : 0);
            due(-1, () -> x.step(6, w));
            due(-1, () -> x.step(MAX, w));
            due(-1, () -> x.step(MIN, w));
        }
        // a shorter one behind a longer one: the longer one's steps are gone
        x.lookup(0, 2000, true);
        due(0, () -> x.step(0, 0));
        due(-1, () -> x.step(1, 0));
        x.lookup(0, 0, true);
        due(-1, () -> x.step(0, 0));
    }

    private static void whyIfItWasCut() {
        ShiftRing x = Rings.cut();
        due(-1, () -> x.why(0));
        x.lookup(0, 5, true);
        Check.dues(x::why, 0, 3, 2, 1, -1);
        due(-1, () -> x.why(-1));
        due(-1, () -> x.why(MIN));
        due(-1, () -> x.why(MAX));
        x.up(1);
        x.lookup(0, 5, true);
        Check.dues(x::why, -1, -1, -1, -1, -1);
        ShiftRing lost = Rings.losing();
        due(-3, () -> lost.lookup(0, 2176, false));
        due(-1, () -> lost.why(0));
        // cut by put() and get(), too
        ShiftRing put = Rings.cut();
        Check.refused(STATE, () -> put.put(0, 5, 5));
        Check.dues(put::why, 0, 3, 2, 1, -1);
        ShiftRing get = Rings.cut();
        Check.refused(STATE, () -> get.get(0, 5));
        Check.dues(get::why, 0, 3, 2, 1, -1);
    }

    // ---- promises 14 to 35 ----

    private static void ofADownNode() {
        ShiftRing x = Rings.four();
        x.down(1);
        Check.dues(what -> x.node(1, what), 1024, 0, 4, 3, 4, 13, 13, -1, -1, -1, -1, -1);
        Check.dues(k -> x.link(1, k, false), 2, 3, 0, -1);
        Check.dues(k -> x.link(1, k, true), 0, 1, 2, 3, -1);
        due(0, () -> x.better(1));
        due(0, () -> x.spot(1, 5));
        due(-1, () -> x.held(1, 5, 0));
    }

    private static void withoutAnyLink() {
        ShiftRing x = Rings.four();
        for (boolean pointer : new boolean[] {false, true}) {
            for (int k : new int[] {-1, 4, 8, 24, MIN, MAX}) {
                due(-1, () -> x.link(0, k, pointer));
            }
        }
        due(3, () -> x.link(0, 2, false));
        due(-1, () -> x.link(0, 3, false));
        due(3, () -> x.link(0, 3, true));
        due(-1, () -> Rings.at(7).link(0, 0, false));
        due(0, () -> Rings.at(7).link(0, 0, true));
        due(-1, () -> Rings.at(7).link(0, 1, true));
    }

    private static void nobodyIsUp() {
        ShiftRing x = allDown();
        for (int key : new int[] {0, 2000, 4095}) {
            due(-1, () -> x.owner(key));
            due(-1, () -> x.host(key));
            due(-1, () -> x.nearest(key));
            due(-1, () -> x.quickest(key));
            due(0, () -> x.detour(key));
            due(0, () -> x.about(key, 0));
        }
        Check.dues(what -> x.sample(true, what), 0, 0, 0, 0, 0, 0, 0, 0);
        Check.dues(what -> x.sample(false, what), 0, 0, 0, 0, 0, 0, 0, 0);
        due(0, () -> x.cost(16, 8));
        due(201, () -> x.choice(11));
        due(1, () -> x.enough(1));
        due(0, () -> x.better(0));
        due(0, () -> x.mendAll());
        Check.dues(x::count, 5, 0, 4, 3, 6, 0, 0, -1, -1, 0, -1, 3, 3, 4, 0, -1, -1);
    }

    private static void nearestOfSeveral() {
        ShiftRing x = Rings.two();
        due(0, () -> x.nearest(2048));
        due(0, () -> x.nearest(0));
        due(0, () -> x.nearest(1));
        due(1, () -> x.nearest(2049));
        due(1, () -> x.nearest(4095));
        due(-1, () -> Rings.cut().nearest(0));
        due(-1, () -> Rings.strangers().nearest(1));
        due(1, () -> Rings.strangers().nearest(2048));
        due(0, () -> Rings.strangers().nearest(2049));
        x.down(0);
        x.mend(1);
        due(1, () -> x.nearest(0));
    }

    private static void quickestOfSeveral() {
        ShiftRing x = Rings.two();
        x.spot(0, 99);
        due(0, () -> x.quickest(2048));
        due(0, () -> x.quickest(0));
        due(0, () -> x.quickest(1));
        due(1, () -> x.quickest(2049));
        due(-1, () -> Rings.cut().quickest(0));
        due(-1, () -> Rings.strangers().quickest(1));
        due(1, () -> Rings.strangers().quickest(2048));
        due(0, () -> Rings.strangers().quickest(4095));
    }

    private static void betterOfSeveral() {
        due(0, () -> Rings.at(7).better(0));
        ShiftRing x = Rings.two();
        due(0, () -> x.better(0));
        x.spot(1, 99);
        due(99, () -> x.better(0));
        due(0, () -> x.better(1));
        x.spot(1, 98);
        due(98, () -> x.better(0));
        x.spot(0, 1);
        due(1, () -> x.better(1));
        due(1, () -> x.spot(0, 0));
        due(98, () -> x.spot(1, 0));
        // nobody comes to a node that is down: each spot is as good
        x.spot(0, 50);
        x.down(1);
        due(0, () -> x.better(0));
        due(0, () -> x.better(1));
        // most others stand at 0, one far off
        ShiftRing f = Rings.full();
        f.spot(5, 50);
        Check.dues(f::better, 0, 0, 0, 0, 0, 0, 0);
        for (int n = 0; n < 24; n++) {
            f.spot(n, n == 5 ? 50 : 99);
        }
        Check.dues(f::better, 99, 99, 99, 99, 99, 99, 99);
    }

    /** What sample() says of lookups, asked of each of them. */
    private static void sampleTogether() {
        for (boolean best : new boolean[] {true, false}) {
            int[] all = new int[8];
            for (int n = 1; n < 5; n++) {
                for (int key = 0; key <= 4032; key += 64) {
                    ShiftRing x = losingInTime();
                    x.lookup(n, key, best);
                    for (int what = 0; what < 4; what++) {
                        all[what] += x.latest(what);
                    }
                    all[4] += 1 - x.latest(4);
                    all[5] = Math.max(all[5], x.latest(0));
                    all[6] += x.latest(8);
                    all[7] = Math.max(all[7], x.latest(8));
                }
            }
            Check.dues(what -> losingInTime().sample(best, what), all);
        }
    }

    /** What the sample ahead of it came to is forgotten. */
    private static void sampleAnew() {
        ShiftRing x = Rings.two();
        x.spot(1, 99);
        Check.dues(what -> x.sample(true, what), 62, 62, 0, 0, 0, 1, 6200, 100);
        x.spot(1, 0);
        Check.dues(what -> x.sample(true, what), 62, 62, 0, 0, 0, 1, 62, 1);
        x.down(1);
        Check.dues(what -> x.sample(true, what), 0, 0, 0, 0, 64, 0, 0, 0);
        x.mend(0);
        Check.dues(what -> x.sample(true, what), 0, 0, 0, 0, 0, 0, 0, 0);
    }

    /** Node 0 is down. */
    private static ShiftRing losingInTime() {
        ShiftRing x = Rings.losingBest();
        x.spot(1, 60);
        x.spot(3, 9);
        return x;
    }

    // ---- promises 36 to 41 ----

    private static void putThatIsCutOrLost() {
        Check.Maker cut = thenRefused(Rings::cut, x -> x.put(0, 100, 5));
        same(Rings::cut, cut, State.NODES, State.LINKS, State.VALUES);
        same(then(Rings::cut, x -> x.lookup(0, 100, true)), cut, State.LATEST);
        Check.Maker lost = thenRefused(Rings::losingBest, x -> x.put(1, 2688, 5));
        same(Rings::losingBest, lost, State.NODES, State.LINKS, State.VALUES);
        same(then(Rings::losingBest, x -> x.lookup(1, 2688, true)), lost, State.LATEST);
        due(200, () -> lost.make().latest(5));
        // a known key, too, keeps what it was
        Check.Maker known = () -> {
            ShiftRing x = Rings.four();
            x.put(0, 100, 1);
            x.down(1);
            x.down(2);
            x.down(3);
            return x;
        };
        Check.Maker again = thenRefused(known, x -> x.put(0, 100, 2));
        same(known, again, State.NODES, State.LINKS, State.VALUES);
        due(1, () -> again.make().about(100, 3));
    }

    private static void getThatIsCutOrLost() {
        Check.Maker cut = thenRefused(Rings::cut, x -> x.get(0, 100));
        same(Rings::cut, cut, State.NODES, State.LINKS, State.VALUES);
        same(then(Rings::cut, x -> x.lookup(0, 100, true)), cut, State.LATEST);
        Check.Maker lost = thenRefused(Rings::losingBest, x -> x.get(1, 2688));
        same(Rings::losingBest, lost, State.NODES, State.LINKS, State.VALUES);
        same(then(Rings::losingBest, x -> x.lookup(1, 2688, true)), lost, State.LATEST);
    }

    private static void noLookupIsMade() {
        Check.Maker down = () -> {
            ShiftRing x = Rings.cut();
            x.up(1);
            x.lookup(0, 2000, true);
            return x;
        };
        Check.refused(STATE, down, x -> x.put(2, 100, 5));
        Check.refused(STATE, down, x -> x.get(2, 100));
        Check.refused(STATE, down, x -> x.lookup(2, 100, true));
        Check.refused(STATE, Rings::crammed, x -> x.put(0, 1, 1));
        // 32 keys, and the lookup would be cut: refused ahead of it
        Check.refused(STATE, () -> {
            ShiftRing x = Rings.crammed();
            x.down(1);
            x.down(2);
            x.down(3);
            return x;
        }, x -> x.put(0, 1, 1));
    }

    private static void heldOrNone() {
        ShiftRing x = Rings.four();
        due(-1, () -> x.held(0, 0, 0));
        due(-1, () -> x.held(0, 4095, 1));
        x.put(0, 0, 0);
        due(0, () -> x.held(0, 0, 0));
        due(1, () -> x.held(0, 0, 1));
        due(0, () -> x.held(1, 0, 0));
        due(-1, () -> x.held(2, 0, 0));
        due(-1, () -> x.held(2, 0, 1));
        due(-1, () -> x.held(0, 1, 0));
        x.put(0, 4095, 999);
        due(999, () -> x.held(0, 4095, 0));
        due(2, () -> x.held(0, 4095, 1));
    }

    private static void latestAndOlder() {
        ShiftRing x = Rings.four();
        Check.dues(what -> x.about(2000, what), 12, 0, 0, 0);
        x.put(0, 2000, 1);
        Check.dues(what -> x.about(2000, what), 12, 12, 0, 1);
        x.copies(1);
        x.put(0, 2000, 2);
        Check.dues(what -> x.about(2000, what), 4, 4, 8, 2);
        x.put(0, 3000, 2);
        Check.dues(what -> x.about(2000, what), 4, 4, 8, 2);
        Check.dues(what -> x.about(3000, what), 8, 8, 0, 3);
        x.down(2);
        Check.dues(what -> x.about(2000, what), 8, 4, 8, 2);
        due(1, () -> x.count(12));
        x.up(2);
        due(0, () -> x.count(12));
    }

    // ---- promise 42 ----

    private static void mostOfSeveral() {
        ShiftRing x = Rings.four();
        due(0, () -> x.count(7));
        due(0, () -> x.count(8));
        due(0, () -> x.count(10));
        due(0, () -> x.count(16));
        x.down(0);
        x.mendAll();
        // 1 owns twice as much as the others now
        due(1, () -> x.count(7));
        // 1023, 1024, 1024, 1, 1024 keys
        due(1, () -> Rings.at(2047, 0, 1024, 2048, 3072).count(7));
        ShiftRing y = Rings.two();
        y.down(0);
        for (int what : new int[] {7, 8, 10, 16}) {
            due(1, () -> y.count(what));
        }
        // with 1 down nothing is wrong, with 0 down all
        due(0, () -> Rings.strangers().count(8));
        // 54, 71, 75, 15 lookups come to them; from plain starts most would come to 0
        due(2, () -> Rings.laidBy(16, 3, 2700, 3900, 1500, 1200).count(16));
    }

    private static void mostLinksOfAnUpNode() {
        ShiftRing x = Rings.strangers();
        due(1, () -> x.count(9));
        x.down(1);
        due(0, () -> x.count(9));
        x.down(0);
        due(0, () -> x.count(9));
        // links to those that are down count as they were laid
        due(3, () -> Rings.cut().count(9));
    }

    private static void missing() {
        ShiftRing x = Rings.four();
        x.copies(1);
        x.put(0, 5, 1);
        x.put(0, 2000, 1);
        due(0, () -> x.count(12));
        x.down(1);
        due(1, () -> x.count(12));
        x.down(2);
        due(2, () -> x.count(12));
        x.up(1);
        due(1, () -> x.count(12));
        x.put(1, 2000, 2);
        due(0, () -> x.count(12));
        x.up(2);
        due(0, () -> x.count(12));
        x.down(3);
        // 2 is up and holds an older one
        due(1, () -> x.count(12));
    }

    private static void noneForAnotherWhat() {
        for (Check.Maker maker : new Check.Maker[] {ShiftRing::new, Rings::used, Rings::full}) {
            ShiftRing x = maker.make();
            for (int what : new int[] {-1, 17, 18, MIN, MAX}) {
                due(-1, () -> x.count(what));
            }
        }
    }

    public static void main(String[] args) {
        Check.sentence("1: no NODES", EdgeTest::newObject);
        Check.sentence("1: each object by itself", EdgeTest::objectsOfTheirOwn);
        Check.sentence("3, 4: how many are UP then", EdgeTest::howManyAreUp);
        Check.sentence("5, 6: STALE ahead of it; all UP ones", EdgeTest::staleAheadOfIt);
        Check.sentence("7, 8, 9, 36: what it was", EdgeTest::whatItWas);
        Check.sentence("2 to 10, 36 to 39: nothing beyond what is described", EdgeTest::whatChangesAndWhatDoesNot);
        Check.sentence("11: 0 of 0 to 6, NONE of 7 ahead of any, 8 TIME (0)", EdgeTest::aheadOfAnyLookup);
        Check.sentence("11: the latest LOOKUP by lookup(), put(), get()", EdgeTest::latestOfThree);
        Check.sentence("11: as it was when it was made", EdgeTest::latestStaysAsItWas);
        Check.sentence("12: NONE without such a STEP", EdgeTest::stepsThereAre);
        Check.sentence("13: NONE without, and if it was not", EdgeTest::whyIfItWasCut);
        Check.sentence("15: NONE, if it is DOWN", EdgeTest::ofADownNode);
        Check.sentence("16: NONE without", EdgeTest::withoutAnyLink);
        Check.sentence("14, 21, 31, 33: NONE: no NODE is UP", EdgeTest::nobodyIsUp);
        Check.sentence("21: of several the least; NONE", EdgeTest::nearestOfSeveral);
        Check.sentence("31: of several the least; NONE", EdgeTest::quickestOfSeveral);
        Check.sentence("32: would be the least, of several the least", EdgeTest::betterOfSeveral);
        Check.sentence("24: all together, the most of one", EdgeTest::sampleTogether);
        Check.sentence("24: of SAMPLE as it is now", EdgeTest::sampleAnew);
        Check.sentence("37: the LOOKUP is CUT or LOST (it is the latest then)", EdgeTest::putThatIsCutOrLost);
        Check.sentence("38: the LOOKUP is CUT or LOST (it is the latest then)", EdgeTest::getThatIsCutOrLost);
        Check.sentence("37, 38: no LOOKUP is made", EdgeTest::noLookupIsMade);
        Check.sentence("40: NONE", EdgeTest::heldOrNone);
        Check.sentence("41: LATEST (0: it was never PUT), an older VERSION", EdgeTest::latestAndOlder);
        Check.sentence("42: of several the least (NONE)", EdgeTest::mostOfSeveral);
        Check.sentence("42: the most LINKS of an UP NODE", EdgeTest::mostLinksOfAnUpNode);
        Check.sentence("42: of which no UP NODE HOLDS the LATEST", EdgeTest::missing);
        Check.sentence("42: NONE for another what", EdgeTest::noneForAnotherWhat);
        Check.end();
    }
}
