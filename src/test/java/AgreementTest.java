import java.util.Random;

/**
 * Random runs of calls, each answered by ShiftRing and by PlainRing: the answers, and the
 * exceptions, must be the same. Every run is named by its seed.
 */
public final class AgreementTest {
    /** What later calls answer is free. */
    private static final int MOST_CALLS = 512;
    private static final int[] ODD = {-1, Integer.MIN_VALUE, Integer.MAX_VALUE, 4096, 24, 200, 1000, 32};

    private final Random random;
    private final long seed;
    private final ShiftRing ring = new ShiftRing();
    private final PlainRing plain = new PlainRing();
    private final int mostNodes;
    private final boolean still;
    private final StringBuilder log = new StringBuilder();
    private int made;

    private static int wrong = 0;
    private static long calls = 0;
    /** How the latest lookups ended when they were asked of: 0 well, 2 cut, 3 lost. */
    private static final long[] seen = new long[4];

    private interface Call {
        int answer();
    }

    private AgreementTest(long seed) {
        this.seed = seed;
        random = new Random(seed);
        mostNodes = 1 + random.nextInt(random.nextBoolean() ? 24 : 8);
        still = random.nextInt(4) == 0;
    }

    private static String told(Call call) {
        try {
            return Integer.toString(call.answer());
        } catch (RuntimeException e) {
            return "throws." + e.getClass().getSimpleName();
        }
    }

    private void same(String name, Call one, Call other) {
        if (made >= MOST_CALLS) {
            return;
        }
        made++;
        calls++;
        String got = told(one);
        String due = told(other);
        log.append(name).append(" -> ").append(due).append('\n');
        if (!got.equals(due)) {
            wrong++;
            System.out.println("seed " + seed + ": " + name + " answered " + got + ", due is " + due);
        }
    }

    private boolean rarely() {
        return random.nextInt(40) == 0;
    }

    private int odd() {
        return ODD[random.nextInt(ODD.length)];
    }

    private int node() {
        int n = plain.nodes.size();
        return n == 0 || rarely() ? (random.nextBoolean() ? n : odd()) : random.nextInt(n);
    }

    private int place() {
        int n = plain.nodes.size();
        if (rarely()) {
            return odd();
        }
        switch (random.nextInt(5)) {
            case 0: return 64 * random.nextInt(64);
            case 1: return n == 0 ? 0 : (plain.nodes.get(random.nextInt(n)).place + random.nextInt(3) + 4095) % 4096;
            case 2: return random.nextBoolean() ? 0 : 4095;
            case 3: return random.nextInt(3) == 0 ? 128 + random.nextInt(40) : random.nextInt(4096);
            default: return random.nextInt(4096);
        }
    }

    private int key() {
        return random.nextBoolean() ? 100 * random.nextInt(36) : place();
    }

    private int what(int most) {
        return rarely() ? (random.nextBoolean() ? most + 1 : odd()) : random.nextInt(most + 1);
    }

    private int in(int least, int most) {
        return rarely() ? (random.nextBoolean() ? least - 1 : most + 1) : least + random.nextInt(most - least + 1);
    }

    private int base() {
        return rarely() ? random.nextInt(20) : 2 << random.nextInt(4);
    }

    private void change() {
        int a = node();
        switch (random.nextInt(still ? 24 : 13)) {
            case 0: case 1: case 2: {
                if (plain.nodes.size() < mostNodes || rarely()) {
                    int p = place();
                    same("join(" + p + ")", () -> ring.join(p), () -> plain.join(p));
                }
                break;
            }
            case 3: case 4: same("down(" + a + ")", () -> ring.down(a), () -> plain.down(a)); break;
            case 5: case 6: same("up(" + a + ")", () -> ring.up(a), () -> plain.up(a)); break;
            case 7: same("mend(" + a + ")", () -> ring.mend(a), () -> plain.mend(a)); break;
            case 8: {
                if (random.nextInt(3) == 0) {
                    same("mendAll()", () -> ring.mendAll(), () -> plain.mendAll());
                }
                break;
            }
            case 9: {
                int x = base();
                same("turn(" + x + ")", () -> ring.turn(x), () -> plain.turn(x));
                break;
            }
            case 10: {
                int x = in(1, 8);
                same("degree(" + x + ")", () -> ring.degree(x), () -> plain.degree(x));
                break;
            }
            case 11: {
                int x = in(0, 99);
                same("spot(" + a + "," + x + ")", () -> ring.spot(a, x), () -> plain.spot(a, x));
                break;
            }
            case 12: {
                int x = in(1, 3);
                same("copies(" + x + ")", () -> ring.copies(x), () -> plain.copies(x));
                break;
            }
            default:
        }
    }

    private void askOfLatest() {
        int end = plain.told == null ? 0 : plain.told.end;
        seen[end >= 0 ? 0 : -end]++;
        for (int w = 0; w <= 8; w++) {
            int what = w;
            same("latest(" + w + ")", () -> ring.latest(what), () -> plain.latest(what));
        }
        int k = random.nextInt(8);
        for (int w = 0; w <= 3; w++) {
            int what = w;
            same("step(" + k + "," + w + ")", () -> ring.step(k, what), () -> plain.step(k, what));
            int l = plain.told == null ? 0 : plain.told.steps.size() - 1;
            same("step(" + l + "," + w + ")", () -> ring.step(l, what), () -> plain.step(l, what));
        }
        int w = random.nextInt(6) - 1;
        same("why(" + w + ")", () -> ring.why(w), () -> plain.why(w));
    }

    private void lookAndStore() {
        int a = node();
        int k = key();
        switch (random.nextInt(6)) {
            case 0: case 1: {
                boolean best = random.nextBoolean();
                same("lookup(" + a + "," + k + "," + best + ")", () -> ring.lookup(a, k, best), () -> plain.lookup(a, k, best));
                break;
            }
            case 2: case 3: {
                int v = in(0, 999);
                same("put(" + a + "," + k + "," + v + ")", () -> ring.put(a, k, v), () -> plain.put(a, k, v));
                break;
            }
            case 4: same("get(" + a + "," + k + ")", () -> ring.get(a, k), () -> plain.get(a, k)); break;
            default: same("settle(" + a + ")", () -> ring.settle(a), () -> plain.settle(a)); break;
        }
        if (random.nextInt(4) == 0) {
            askOfLatest();
        }
    }

    private void askCheap() {
        int a = node();
        int b = node();
        int k = key();
        int p = place();
        switch (random.nextInt(20)) {
            case 0: same("owner(" + k + ")", () -> ring.owner(k), () -> plain.owner(k)); break;
            case 1: case 2: {
                int w = what(11);
                if (w != 10) {
                    same("node(" + a + "," + w + ")", () -> ring.node(a, w), () -> plain.node(a, w));
                }
                break;
            }
            case 3: {
                int x = random.nextInt(10) - 1;
                boolean ptr = random.nextBoolean();
                same("link(" + a + "," + x + "," + ptr + ")", () -> ring.link(a, x, ptr), () -> plain.link(a, x, ptr));
                break;
            }
            case 4: {
                int x = rarely() ? odd() : random.nextInt(14) - 1;
                same("letter(" + p + "," + x + ")", () -> ring.letter(p, x), () -> plain.letter(p, x));
                break;
            }
            case 5: {
                int q = random.nextInt(3) == 0 ? k : p;
                same("overlap(" + p + "," + q + ")", () -> ring.overlap(p, q), () -> plain.overlap(p, q));
                same("overlap(" + k + "," + q + ")", () -> ring.overlap(k, q), () -> plain.overlap(k, q));
                break;
            }
            case 6: {
                int x = rarely() ? odd() : random.nextInt(14) - 1;
                same("shifted(" + p + "," + k + "," + x + ")", () -> ring.shifted(p, k, x), () -> plain.shifted(p, k, x));
                break;
            }
            case 7: same("start(" + a + "," + k + ")", () -> ring.start(a, k), () -> plain.start(a, k)); break;
            case 8: same("nearest(" + k + ")", () -> ring.nearest(k), () -> plain.nearest(k)); break;
            case 9: same("far(" + a + "," + b + ")", () -> ring.far(a, b), () -> plain.far(a, b)); break;
            case 10: same("apart(" + a + "," + b + ")", () -> ring.apart(a, b), () -> plain.apart(a, b)); break;
            case 11: same("takes(" + a + "," + k + ")", () -> ring.takes(a, k), () -> plain.takes(a, k)); break;
            case 12: same("detour(" + k + ")", () -> ring.detour(k), () -> plain.detour(k)); break;
            case 13: same("quickest(" + k + ")", () -> ring.quickest(k), () -> plain.quickest(k)); break;
            case 14: same("host(" + p + ")", () -> ring.host(p), () -> plain.host(p)); break;
            case 15: same("ideal(" + a + "," + k + ")", () -> ring.ideal(a, k), () -> plain.ideal(a, k)); break;
            case 16: {
                int w = what(1);
                same("held(" + a + "," + k + "," + w + ")", () -> ring.held(a, k, w), () -> plain.held(a, k, w));
                break;
            }
            case 17: {
                int w = what(3);
                same("about(" + k + "," + w + ")", () -> ring.about(k, w), () -> plain.about(k, w));
                break;
            }
            case 18: same("worst(" + a + ")", () -> ring.worst(a), () -> plain.worst(a)); break;
            default: {
                int w = what(17);
                if (w != 8 && w != 10 && w != 16) {
                    same("count(" + w + ")", () -> ring.count(w), () -> plain.count(w));
                }
                break;
            }
        }
    }

    private void askDear() {
        int a = node();
        switch (random.nextInt(11)) {
            case 0: {
                int x = in(4, 11);
                same("choice(" + x + ")", () -> ring.choice(x), () -> plain.choice(x));
                break;
            }
            case 1: same("count(8)", () -> ring.count(8), () -> plain.count(8)); break;
            case 2: same("count(10)", () -> ring.count(10), () -> plain.count(10)); break;
            case 3: same("better(" + a + ")", () -> ring.better(a), () -> plain.better(a)); break;
            case 4: {
                int x = in(1, 9);
                same("enough(" + x + ")", () -> ring.enough(x), () -> plain.enough(x));
                break;
            }
            case 5: same("count(16)", () -> ring.count(16), () -> plain.count(16)); break;
            case 6: same("traffic(" + a + ")", () -> ring.traffic(a), () -> plain.traffic(a)); break;
            case 7: same("node(" + a + ",10)", () -> ring.node(a, 10), () -> plain.node(a, 10)); break;
            case 8: {
                int x = base();
                int d = in(1, 8);
                same("cost(" + x + "," + d + ")", () -> ring.cost(x, d), () -> plain.cost(x, d));
                break;
            }
            default: {
                int w = what(7);
                boolean best = random.nextBoolean();
                same("sample(" + best + "," + w + ")", () -> ring.sample(best, w), () -> plain.sample(best, w));
                break;
            }
        }
    }

    private void run() {
        int wrongBefore = wrong;
        for (int k = 0; made < MOST_CALLS && wrong == wrongBefore; k++) {
            int kind = random.nextInt(still && k > 60 ? 100 : 120);
            if (kind >= 75) {
                change();
            } else if (kind >= 45) {
                lookAndStore();
            } else if (kind >= 2) {
                askCheap();
            } else {
                askDear();
            }
        }
        if (wrong != wrongBefore && wrong <= 3) {
            System.out.println(log + "\n" + plain);
        }
    }

    public static void main(String[] args) {
        int from = args.length > 0 ? Integer.parseInt(args[0]) : 1;
        int to = args.length > 1 ? Integer.parseInt(args[1]) : 300;
        for (int seed = from; seed <= to; seed++) {
            new AgreementTest(seed).run();
        }
        System.out.println(calls + " calls: " + (calls - wrong) + " as due; latest lookups ended "
                + seen[0] + ", cut " + seen[2] + ", lost " + seen[3]);
        if (wrong != 0) {
            System.exit(1);
        }
    }
}
