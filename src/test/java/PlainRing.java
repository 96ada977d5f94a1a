import java.util.ArrayList;
import java.util.Arrays;
import java.util.Comparator;
import java.util.HashMap;
import java.util.HashSet;
import java.util.LinkedHashMap;
import java.util.List;
import java.util.Map;
import java.util.NoSuchElementException;
import java.util.Set;

/**
 * The document read a second time, word by word and without any haste: everything is searched for
 * anew, letters are arrays, what would be is tried on a copy. AgreementTest holds ShiftRing
 * against it.
 */
final class PlainRing {
    static final int NONE = -1;

    static final class Node {
        int number;
        int place;
        boolean up;
        int spot;
        int base;
        List<Integer> successors = new ArrayList<>();
        List<Integer> pointers = new ArrayList<>();
        Map<Integer, int[]> holds = new LinkedHashMap<>();
    }

    /** What is told of a lookup: its steps as {node, I, left, kind}, and the node at the end. */
    static final class Told {
        List<int[]> steps = new ArrayList<>();
        List<Integer> path = new ArrayList<>();
        int end;
        boolean right;
        int spared;
        int time;
        List<Integer> why = new ArrayList<>();

        int last() {
            return path.get(path.size() - 1);
        }

        int kinds(int kind) {
            int n = 0;
            for (int[] s : steps) {
                if (s[3] == kind) {
                    n++;
                }
            }
            return n;
        }

        int hops() {
            int n = 0;
            for (int k = 1; k < path.size(); k++) {
                if (!path.get(k).equals(path.get(k - 1))) {
                    n++;
                }
            }
            return n;
        }
    }

    List<Node> nodes = new ArrayList<>();
    int base = 4;
    int degree = 4;
    int copies = 2;
    int puts = 0;
    Map<Integer, Integer> newest = new LinkedHashMap<>();
    Told told = null;

    // ---- the ring ----

    static int dist(int a, int b) {
        return b >= a ? b - a : b + 4096 - a;
    }

    List<Node> ups() {
        List<Node> list = new ArrayList<>();
        for (Node n : nodes) {
            if (n.up) {
                list.add(n);
            }
        }
        return list;
    }

    /** Up nodes as one meets them from a place on, with it. */
    List<Node> metFrom(int place) {
        List<Node> list = ups();
        list.sort(Comparator.comparingInt(n -> dist(place, n.place)));
        return list;
    }

    List<Node> metBackFrom(int place) {
        List<Node> list = ups();
        list.sort(Comparator.comparingInt(n -> dist(n.place, place)));
        return list;
    }

    int ownerOf(int key) {
        Node found = null;
        for (Node n : nodes) {
            if (n.up && (found == null || dist(key, n.place) < dist(key, found.place))) {
                found = n;
            }
        }
        return found == null ? NONE : found.number;
    }

    int hostOf(int place) {
        List<Node> met = metBackFrom(place);
        return met.isEmpty() ? NONE : met.get(0).number;
    }

    void lay(Node n) {
        n.base = base;
        n.successors = new ArrayList<>();
        for (Node other : metFrom((n.place + 1) % 4096)) {
            if (other != n && n.successors.size() < 3) {
                n.successors.add(other.number);
            }
        }
        n.pointers = new ArrayList<>();
        Node hinge = nodes.get(hostOf(n.place * base % 4096));
        for (Node other : metFrom(hinge.place)) {
            if (n.pointers.size() < degree) {
                n.pointers.add(other.number);
            }
        }
    }

    int nextOf(Node n) {
        if (n.successors.isEmpty()) {
            return n.number;
        }
        for (int s : n.successors) {
            if (nodes.get(s).up) {
                return s;
            }
        }
        return NONE;
    }

    boolean allDead(Node n) {
        return nextOf(n) == NONE;
    }

    int[] arcOf(Node n) {
        int[] arc = new int[4096];
        int end = nodes.get(nextOf(n)).place;
        int many = 0;
        int p = n.place;
        do {
            arc[many++] = p;
            p = (p + 1) % 4096;
        } while (p != end);
        return Arrays.copyOf(arc, many);
    }

    boolean inArc(Node n, int place) {
        int next = nextOf(n);
        return next == n.number || dist(n.place, place) < dist(n.place, nodes.get(next).place);
    }

    Set<Integer> linksOf(Node n) {
        Set<Integer> links = new HashSet<>(n.successors);
        links.addAll(n.pointers);
        links.remove(n.number);
        return links;
    }

    int staleOf(Node n) {
        PlainRing copy = copy();
        Node there = copy.nodes.get(n.number);
        copy.lay(there);
        return rowsApart(n.successors, there.successors) + rowsApart(n.pointers, there.pointers)
                + (n.base != base ? 1 : 0);
    }

    static int rowsApart(List<Integer> a, List<Integer> b) {
        int apart = Math.abs(a.size() - b.size());
        for (int k = 0; k < Math.min(a.size(), b.size()); k++) {
            if (!a.get(k).equals(b.get(k))) {
                apart++;
            }
        }
        return apart;
    }

    PlainRing copy() {
        PlainRing c = new PlainRing();
        c.base = base;
        c.degree = degree;
        for (Node n : nodes) {
            Node m = new Node();
            m.number = n.number;
            m.place = n.place;
            m.up = n.up;
            m.spot = n.spot;
            m.base = n.base;
            m.successors = new ArrayList<>(n.successors);
            m.pointers = new ArrayList<>(n.pointers);
            c.nodes.add(m);
        }
        return c;
    }

    // ---- letters ----

    int letterCount() {
        int n = 0;
        for (int all = 1; all < 4096; all *= base) {
            n++;
        }
        return n;
    }

    private static final Map<Integer, int[][]> LETTERS = new HashMap<>();

    /** Written down once for each base. */
    int[] lettersOf(int place) {
        return LETTERS.computeIfAbsent(base, b -> {
            int[][] all = new int[4096][letterCount()];
            for (int p = 0; p < 4096; p++) {
                for (int k = letterCount() - 1, rest = p; k >= 0; k--) {
                    all[p][k] = rest % b;
                    rest /= b;
                }
            }
            return all;
        })[place];
    }

    static boolean meets(int[] first, int[] second, int n) {
        for (int k = 0; k < n; k++) {
            if (first[first.length - n + k] != second[k]) {
                return false;
            }
        }
        return true;
    }

    int overlapOf(int place, int other) {
        int most = 0;
        int[] a = lettersOf(place);
        int[] b = lettersOf(other);
        for (int n = 0; n <= a.length; n++) {
            if ((n < a.length || place == other) && meets(a, b, n)) {
                most = n;
            }
        }
        return most;
    }

    // ---- lookups ----

    int[] startAt(Node n, int key, boolean best) {
        int all = letterCount();
        if (!best || allDead(n)) {
            return new int[] {n.place, all};
        }
        List<Integer> question = List.of(base, n.place, nodes.get(nextOf(n)).place, key);
        if (STARTS.size() > 200_000) {
            STARTS.clear();
        }
        return STARTS.computeIfAbsent(question, q -> bestStart(n, key));
    }

    /** A base, the two ends of an arc and a key say all: the same start is not searched twice. */
    private static final Map<List<Integer>, int[]> STARTS = new HashMap<>();

    private int[] bestStart(Node n, int key) {
        int all = letterCount();
        int found = NONE;
        int most = -1;
        int[] wanted = lettersOf(key);
        for (int p : arcOf(n)) {
            int[] letters = lettersOf(p);
            for (int m = all; m > most; m--) {
                if (meets(letters, wanted, m)) {
                    most = m;
                    found = p;
                }
            }
        }
        return new int[] {found, all - most};
    }

    Told look(int node, int key, boolean best) {
        Told t = new Told();
        Node at = nodes.get(node);
        t.path.add(node);
        int[] s = startAt(at, key, best);
        int i = s[0];
        int left = s[1];
        t.spared = letterCount() - left;
        int[] keyLetters = lettersOf(key);
        while (true) {
            if (allDead(at)) {
                t.end = -2;
                t.why.add(at.number);
                for (int k = at.successors.size() - 1; k >= 0; k--) {
                    t.why.add(at.successors.get(k));
                }
                break;
            }
            Node next = nodes.get(nextOf(at));
            if (key == at.place) {
                t.end = at.number;
                break;
            }
            if (inArc(at, key) || key == next.place) {
                t.end = next.number;
                break;
            }
            if (t.steps.size() == 200) {
                t.end = -3;
                break;
            }
            int[] step = {at.number, i, left, NONE};
            t.steps.add(step);
            Node to = next;
            boolean anew = false;
            if (at.base != base) {
                step[3] = 2;
                anew = true;
            } else if (inArc(at, i) && left > 0) {
                int shifted = (i * base + keyLetters[keyLetters.length - left]) % 4096;
                Node hinge = nodes.get(at.pointers.get(0));
                Node found = null;
                for (int p : at.pointers) {
                    Node pointer = nodes.get(p);
                    if (pointer.up && dist(hinge.place, pointer.place) <= dist(hinge.place, shifted)) {
                        found = pointer;
                    }
                }
                if (found == null) {
                    step[3] = 2;
                    anew = true;
                } else {
                    step[3] = 0;
                    i = shifted;
                    left--;
                    to = found;
                }
            } else {
                step[3] = 1;
            }
            if (to != at) {
                t.time += 1 + Math.abs(to.spot - at.spot);
            }
            at = to;
            t.path.add(at.number);
            if (anew) {
                s = startAt(at, key, best);
                i = s[0];
                left = s[1];
            }
        }
        t.right = t.end >= 0 && t.end == ownerOf(key);
        return t;
    }

    List<Told> sampleOf(boolean best) {
        List<Told> all = new ArrayList<>();
        for (int key = 0; key <= 4032; key += 64) {
            for (Node n : ups()) {
                all.add(look(n.number, key, best));
            }
        }
        return all;
    }

    int sampleHops() {
        int hops = 0;
        for (Told t : sampleOf(true)) {
            hops += t.hops();
        }
        return hops;
    }

    // ---- the face ----

    void needNode(int node) {
        if (node < 0 || node >= nodes.size()) {
            throw new IndexOutOfBoundsException();
        }
    }

    void needPlace(int place) {
        if (place < 0 || place > 4095) {
            throw new IllegalArgumentException();
        }
    }

    void needUp(int node) {
        if (!nodes.get(node).up) {
            throw new IllegalStateException();
        }
    }

    void need(boolean argument) {
        if (!argument) {
            throw new IllegalArgumentException();
        }
    }

    void needWhat(int what, int most) {
        if (what < 0 || what > most) {
            throw new NoSuchElementException();
        }
    }

    static boolean isBase(int base) {
        return base == 2 || base == 4 || base == 8 || base == 16;
    }

    int join(int place) {
        needPlace(place);
        if (nodes.size() == 24) {
            throw new IllegalStateException();
        }
        for (Node n : nodes) {
            if (n.place == place) {
                throw new IllegalStateException();
            }
        }
        Node n = new Node();
        n.number = nodes.size();
        n.place = place;
        n.up = true;
        nodes.add(n);
        lay(n);
        return n.number;
    }

    int down(int node) {
        needNode(node);
        needUp(node);
        nodes.get(node).up = false;
        return ups().size();
    }

    int up(int node) {
        needNode(node);
        if (nodes.get(node).up) {
            throw new IllegalStateException();
        }
        nodes.get(node).up = true;
        lay(nodes.get(node));
        return ups().size();
    }

    int mend(int node) {
        needNode(node);
        needUp(node);
        int stale = staleOf(nodes.get(node));
        lay(nodes.get(node));
        return stale;
    }

    int mendAll() {
        int stale = 0;
        for (Node n : ups()) {
            stale += staleOf(n);
        }
        for (Node n : ups()) {
            lay(n);
        }
        return stale;
    }

    int turn(int b) {
        need(isBase(b));
        int was = base;
        base = b;
        return was;
    }

    int degree(int d) {
        need(d >= 1 && d <= 8);
        int was = degree;
        degree = d;
        return was;
    }

    int spot(int node, int spot) {
        needNode(node);
        need(spot >= 0 && spot <= 99);
        int was = nodes.get(node).spot;
        nodes.get(node).spot = spot;
        return was;
    }

    int lookup(int node, int key, boolean best) {
        needNode(node);
        needPlace(key);
        needUp(node);
        told = look(node, key, best);
        return told.end;
    }

    int latest(int what) {
        needWhat(what, 8);
        if (told == null) {
            return what == 7 ? NONE : 0;
        }
        int[] all = {told.hops(), told.kinds(0), told.kinds(1), told.kinds(2), told.right ? 1 : 0,
            told.steps.size(), told.spared, told.last(), told.time};
        return all[what];
    }

    int step(int k, int what) {
        needWhat(what, 3);
        if (told == null || k < 0 || k >= told.steps.size()) {
            return NONE;
        }
        return told.steps.get(k)[what];
    }

    int why(int k) {
        return told == null || k < 0 || k >= told.why.size() ? NONE : told.why.get(k);
    }

    int owner(int key) {
        needPlace(key);
        return ownerOf(key);
    }

    int loadOf(Node n) {
        int load = 0;
        int p = n.place;
        do {
            load++;
            p = (p + 4095) % 4096;
        } while (load < 4096 && ownerOf(p) == n.number);
        return load;
    }

    int harmOf(Node n) {
        PlainRing c = copy();
        c.nodes.get(n.number).up = false;
        int wrong = 0;
        for (Told t : c.sampleOf(true)) {
            wrong += t.right ? 0 : 1;
        }
        return wrong;
    }

    static int bits(Iterable<Integer> numbers) {
        int bits = 0;
        for (int n : numbers) {
            bits |= 1 << n;
        }
        return bits;
    }

    int node(int node, int what) {
        needNode(node);
        needWhat(what, 11);
        Node n = nodes.get(node);
        switch (what) {
            case 0: return n.place;
            case 1: return n.up ? 1 : 0;
            case 2: return n.base;
            case 3: return n.successors.size();
            case 4: return n.pointers.size();
            case 5: return bits(linksOf(n));
            case 6: {
                List<Integer> from = new ArrayList<>();
                for (Node m : nodes) {
                    if (linksOf(m).contains(node)) {
                        from.add(m.number);
                    }
                }
                return bits(from);
            }
            default:
        }
        if (!n.up) {
            return NONE;
        }
        switch (what) {
            case 7: return staleOf(n);
            case 8: return nextOf(n);
            case 9: return loadOf(n);
            case 10: return harmOf(n);
            default: return allDead(n) ? NONE : arcOf(n).length;
        }
    }

    int link(int node, int k, boolean pointer) {
        needNode(node);
        List<Integer> row = pointer ? nodes.get(node).pointers : nodes.get(node).successors;
        return k < 0 || k >= row.size() ? NONE : row.get(k);
    }

    int letter(int place, int k) {
        needPlace(place);
        int[] letters = lettersOf(place);
        return k < 0 || k >= letters.length ? NONE : letters[k];
    }

    int overlap(int place, int other) {
        needPlace(place);
        needPlace(other);
        return overlapOf(place, other);
    }

    int shifted(int place, int other, int k) {
        needPlace(place);
        needPlace(other);
        int o = overlapOf(place, other);
        int all = letterCount();
        if (k < 0 || k > all - o) {
            return NONE;
        }
        // both written one behind the other, the overlap once: k letters on, a window of all
        List<Integer> tape = new ArrayList<>();
        for (int l : lettersOf(place)) {
            tape.add(l);
        }
        int[] second = lettersOf(other);
        for (int j = o; j < all; j++) {
            tape.add(second[j]);
        }
        int p = 0;
        for (int j = k; j < k + all; j++) {
            p = p * base + tape.get(j);
        }
        return p;
    }

    void needStart(int node, int key) {
        needNode(node);
        needPlace(key);
        needUp(node);
        if (allDead(nodes.get(node))) {
            throw new IllegalStateException();
        }
    }

    int start(int node, int key) {
        needStart(node, key);
        return startAt(nodes.get(node), key, true)[0];
    }

    int idealOf(int node, int key) {
        int[] s = startAt(nodes.get(node), key, true);
        List<Integer> hosts = new ArrayList<>();
        hosts.add(node);
        int[] letters = lettersOf(key);
        int i = s[0];
        for (int k = letters.length - s[1]; k < letters.length; k++) {
            i = (i * base + letters[k]) % 4096;
            hosts.add(hostOf(i));
        }
        int hops = hosts.get(hosts.size() - 1) == ownerOf(key) ? 0 : 1;
        for (int k = 1; k < hosts.size(); k++) {
            hops += hosts.get(k).equals(hosts.get(k - 1)) ? 0 : 1;
        }
        return hops;
    }

    int ideal(int node, int key) {
        needStart(node, key);
        return idealOf(node, key);
    }

    int nearest(int key) {
        needPlace(key);
        int found = NONE;
        int least = Integer.MAX_VALUE;
        for (Node n : ups()) {
            Told t = look(n.number, key, true);
            if (t.right && t.hops() < least) {
                least = t.hops();
                found = n.number;
            }
        }
        return found;
    }

    int quickest(int key) {
        needPlace(key);
        int found = NONE;
        int least = Integer.MAX_VALUE;
        for (Node n : ups()) {
            Told t = look(n.number, key, true);
            if (t.right && t.time < least) {
                least = t.time;
                found = n.number;
            }
        }
        return found;
    }

    int farOf(int a, int b) {
        List<Integer> reached = new ArrayList<>();
        reached.add(a);
        int links = 0;
        while (!reached.contains(b)) {
            List<Integer> more = new ArrayList<>();
            for (int r : reached) {
                for (int l : linksOf(nodes.get(r))) {
                    if (nodes.get(l).up && !reached.contains(l) && !more.contains(l)) {
                        more.add(l);
                    }
                }
            }
            if (more.isEmpty()) {
                return NONE;
            }
            reached.addAll(more);
            links++;
        }
        return links;
    }

    int far(int a, int b) {
        needNode(a);
        needNode(b);
        needUp(a);
        needUp(b);
        return farOf(a, b);
    }

    int apart(int a, int b) {
        needNode(a);
        needNode(b);
        need(a != b);
        needUp(a);
        needUp(b);
        boolean direct = linksOf(nodes.get(a)).contains(b);
        int others = ups().size() - 2;
        return (direct ? 1 : 0) + (others <= 11 ? leastCut(a, b) : ways(a, b));
    }

    /** The fewest other nodes without which no way but the link itself is left (Menger). */
    int leastCut(int a, int b) {
        List<Integer> others = new ArrayList<>();
        for (Node n : ups()) {
            if (n.number != a && n.number != b) {
                others.add(n.number);
            }
        }
        int least = others.size();
        for (int set = 0; set < 1 << others.size(); set++) {
            if (Integer.bitCount(set) < least) {
                Set<Integer> gone = new HashSet<>();
                for (int k = 0; k < others.size(); k++) {
                    if ((set >> k & 1) == 1) {
                        gone.add(others.get(k));
                    }
                }
                if (!reaches(a, b, gone, new HashSet<>(Set.of(a)), true)) {
                    least = Integer.bitCount(set);
                }
            }
        }
        return least;
    }

    boolean reaches(int at, int b, Set<Integer> gone, Set<Integer> seen, boolean first) {
        for (int l : linksOf(nodes.get(at))) {
            if (l == b) {
                if (!first) {
                    return true;
                }
            } else if (nodes.get(l).up && !gone.contains(l) && seen.add(l)
                    && reaches(l, b, gone, seen, false)) {
                return true;
            }
        }
        return false;
    }

    /** Ways that are not the link itself, by flow through nodes of one passage each. */
    int ways(int a, int b) {
        int n = nodes.size();
        int[][] room = new int[2 * n][2 * n];
        for (Node m : ups()) {
            int v = m.number;
            room[2 * v][2 * v + 1] = v == a || v == b ? 99 : 1;
            for (int l : linksOf(m)) {
                if (nodes.get(l).up && !(v == a && l == b)) {
                    room[2 * v + 1][2 * l] = 1;
                }
            }
        }
        int ways = 0;
        while (push(room, 2 * a + 1, 2 * b, new boolean[2 * n])) {
            ways++;
        }
        return ways;
    }

    static boolean push(int[][] room, int at, int to, boolean[] seen) {
        if (at == to) {
            return true;
        }
        seen[at] = true;
        for (int v = 0; v < room.length; v++) {
            if (room[at][v] > 0 && !seen[v] && push(room, v, to, seen)) {
                room[at][v]--;
                room[v][at]++;
                return true;
            }
        }
        return false;
    }

    int sample(boolean best, int what) {
        needWhat(what, 7);
        int[] all = new int[8];
        for (Told t : sampleOf(best)) {
            all[0] += t.hops();
            all[1] += t.kinds(0);
            all[2] += t.kinds(1);
            all[3] += t.kinds(2);
            all[4] += t.right ? 0 : 1;
            all[5] = Math.max(all[5], t.hops());
            all[6] += t.time;
            all[7] = Math.max(all[7], t.time);
        }
        return all[what];
    }

    PlainRing laidBy(int b, int d) {
        PlainRing c = copy();
        c.base = b;
        c.degree = d;
        for (Node n : c.ups()) {
            c.lay(n);
        }
        return c;
    }

    int cost(int b, int d) {
        need(isBase(b));
        need(d >= 1 && d <= 8);
        return laidBy(b, d).sampleHops();
    }

    int choice(int links) {
        need(links >= 4 && links <= 11);
        List<int[]> all = new ArrayList<>();
        for (int d = 1; 3 + d <= links; d++) {
            for (int b : new int[] {2, 4, 8, 16}) {
                all.add(new int[] {cost(b, d), d, b});
            }
        }
        all.sort(Comparator.<int[]>comparingInt(x -> x[0]).thenComparingInt(x -> x[1])
                .thenComparingInt(x -> x[2]));
        return 100 * all.get(0)[2] + all.get(0)[1];
    }

    int takes(int node, int key) {
        needNode(node);
        needPlace(key);
        needUp(node);
        Told t = look(node, key, true);
        return t.right ? t.hops() : NONE;
    }

    int worst(int node) {
        needNode(node);
        needUp(node);
        int found = NONE;
        int most = -1;
        for (int key = 0; key < 4096; key += 64) {
            int takes = takes(node, key);
            if (takes > most) {
                most = takes;
                found = key;
            }
        }
        return found;
    }

    int trafficOf(int node) {
        int n = 0;
        for (Told t : sampleOf(true)) {
            boolean came = false;
            for (int k = 1; k < t.path.size(); k++) {
                came |= t.path.get(k) == node && t.path.get(k - 1) != node;
            }
            n += came ? 1 : 0;
        }
        return n;
    }

    int traffic(int node) {
        needNode(node);
        needUp(node);
        return trafficOf(node);
    }

    int detour(int key) {
        needPlace(key);
        int sum = 0;
        for (Node n : ups()) {
            Told t = look(n.number, key, true);
            if (t.right) {
                sum += t.hops() - idealOf(n.number, key);
            }
        }
        return sum;
    }

    int better(int node) {
        needNode(node);
        PlainRing c = copy();
        int found = NONE;
        int least = Integer.MAX_VALUE;
        for (int spot = 0; spot <= 99; spot++) {
            c.nodes.get(node).spot = spot;
            int time = c.sample(true, 6);
            if (time < least) {
                least = time;
                found = spot;
            }
        }
        return found;
    }

    int host(int place) {
        needPlace(place);
        return hostOf(place);
    }

    int enough(int hops) {
        need(hops >= 1 && hops <= 200);
        for (int d = 1; d <= 8; d++) {
            if (laidBy(base, d).sample(true, 5) <= hops) {
                return d;
            }
        }
        return NONE;
    }

    // ---- values ----

    int copies(int n) {
        need(n >= 1 && n <= 3);
        int was = copies;
        copies = n;
        return was;
    }

    int put(int node, int key, int value) {
        needNode(node);
        needPlace(key);
        need(value >= 0 && value <= 999);
        needUp(node);
        if (!newest.containsKey(key) && newest.size() == 32) {
            throw new IllegalStateException();
        }
        told = look(node, key, true);
        if (told.end < 0) {
            throw new IllegalStateException();
        }
        puts++;
        newest.put(key, puts);
        List<Node> holders = new ArrayList<>();
        holders.add(nodes.get(told.end));
        for (int s : nodes.get(told.end).successors) {
            if (nodes.get(s).up) {
                holders.add(nodes.get(s));
            }
        }
        int n = Math.min(copies, holders.size());
        for (int k = 0; k < n; k++) {
            holders.get(k).holds.put(key, new int[] {value, puts});
        }
        return n;
    }

    int get(int node, int key) {
        needNode(node);
        needPlace(key);
        needUp(node);
        told = look(node, key, true);
        if (told.end < 0) {
            throw new IllegalStateException();
        }
        Node end = nodes.get(told.end);
        if (end.holds.containsKey(key)) {
            return end.holds.get(key)[0];
        }
        for (int s : end.successors) {
            if (nodes.get(s).up && nodes.get(s).holds.containsKey(key)) {
                return nodes.get(s).holds.get(key)[0];
            }
        }
        return NONE;
    }

    List<Node> keepers(int key) {
        List<Node> met = metFrom(key);
        return met.subList(0, Math.min(copies, met.size()));
    }

    int settle(int node) {
        needNode(node);
        needUp(node);
        Node n = nodes.get(node);
        int changed = 0;
        for (int key : newest.keySet()) {
            int[] has = n.holds.get(key);
            if (has == null) {
                continue;
            }
            for (Node keeper : keepers(key)) {
                int[] other = keeper.holds.get(key);
                if (other == null || other[1] < has[1]) {
                    keeper.holds.put(key, has);
                    changed++;
                }
            }
            if (!keepers(key).contains(n)) {
                n.holds.remove(key);
                changed++;
            }
        }
        return changed;
    }

    int held(int node, int key, int what) {
        needNode(node);
        needWhat(what, 1);
        needPlace(key);
        int[] has = nodes.get(node).holds.get(key);
        return has == null ? NONE : has[what];
    }

    int about(int key, int what) {
        needWhat(what, 3);
        needPlace(key);
        int latest = newest.getOrDefault(key, 0);
        if (what == 3) {
            return latest;
        }
        int bits = 0;
        for (Node n : what == 0 ? keepers(key) : nodes) {
            int[] has = n.holds.get(key);
            if (what == 0 || has != null && (has[1] == latest) == (what == 1)) {
                bits |= 1 << n.number;
            }
        }
        return bits;
    }

    // ---- counts ----

    int width() {
        int most = 0;
        for (Node a : ups()) {
            for (Node b : ups()) {
                int far = farOf(a.number, b.number);
                if (far == NONE) {
                    return NONE;
                }
                most = Math.max(most, far);
            }
        }
        return most;
    }

    interface Measure {
        int of(Node n);
    }

    int mostOf(Measure measure) {
        int found = NONE;
        int most = -1;
        for (Node n : ups()) {
            int m = measure.of(n);
            if (m > most) {
                most = m;
                found = n.number;
            }
        }
        return found;
    }

    int firstToMend() {
        return mostOf(n -> {
            PlainRing c = copy();
            c.lay(c.nodes.get(n.number));
            return Integer.MAX_VALUE - c.sampleHops();
        });
    }

    int missing() {
        int missing = 0;
        for (int key : newest.keySet()) {
            boolean there = false;
            for (Node n : ups()) {
                int[] has = n.holds.get(key);
                there |= has != null && has[1] == newest.get(key);
            }
            missing += there ? 0 : 1;
        }
        return missing;
    }

    int split() {
        int big = mostOf(this::loadOf);
        if (big == NONE) {
            return NONE;
        }
        int load = loadOf(nodes.get(big));
        // try each place among its keys: as many as it leaves, or one less
        for (int own = 0; own <= load; own++) {
            int rest = load - own;
            if (own == rest || own == rest - 1) {
                int place = (nodes.get(big).place - load + own + 4096) % 4096;
                for (Node n : nodes) {
                    if (n.place == place) {
                        return NONE;
                    }
                }
                return place;
            }
        }
        return NONE;
    }

    int count(int what) {
        int sum = 0;
        switch (what) {
            case 0: return nodes.size();
            case 1: return ups().size();
            case 2: return base;
            case 3: return degree;
            case 4: return letterCount();
            case 5: return width();
            case 6:
                for (Node n : ups()) {
                    sum += staleOf(n);
                }
                return sum;
            case 7: return mostOf(this::loadOf);
            case 8: return mostOf(this::harmOf);
            case 9:
                for (Node n : ups()) {
                    sum = Math.max(sum, linksOf(n).size());
                }
                return sum;
            case 10: return firstToMend();
            case 11: return newest.size();
            case 12: return missing();
            case 13: return puts;
            case 14: {
                int[] loads = ups().stream().mapToInt(this::loadOf).sorted().toArray();
                return loads.length == 0 ? 0 : loads[loads.length - 1] - loads[0];
            }
            case 15: return split();
            case 16: return mostOf(n -> trafficOf(n.number));
            default: return NONE;
        }
    }

    @Override
    public String toString() {
        StringBuilder s = new StringBuilder("base " + base + " degree " + degree);
        for (Node n : nodes) {
            s.append("\n  ").append(n.number).append(n.up ? " up" : " down").append(" at ").append(n.place)
                    .append(" base ").append(n.base).append(" successors ").append(n.successors)
                    .append(" pointers ").append(n.pointers).append(" spot ").append(n.spot);
        }
        return s + "\n  " + Arrays.toString(newest.keySet().toArray());
    }
}
