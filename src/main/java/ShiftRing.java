import java.util.Arrays;
import java.util.NoSuchElementException;

/**
 * Lookups by shifting letters on a ring of places, as the project's document promises them. Words
 * that stand in capitals there (OWNER, HINGE, STALE ..) are the names used here.
 */
public final class ShiftRing {
    public static final int NONE = -1;

    private static final int PLACES = 4096;
    /** A mask, too: places are round because PLACES is a power of two. */
    private static final int LAST_PLACE = PLACES - 1;
    private static final int PLACE_BITS = 12;
    private static final int MOST_NODES = 24;
    private static final int MOST_SUCCESSORS = 3;
    private static final int MOST_DEGREE = 8;
    private static final int MOST_BASE = 16;
    private static final int MOST_SPOT = 99;
    private static final int MOST_STEPS = 200;
    private static final int MOST_COPIES = 3;
    private static final int MOST_KEYS = 32;
    private static final int MOST_VALUE = 999;
    private static final int SAMPLE_GAP = 64;
    private static final int LEAST_LINKS = 4;
    private static final int MOST_LINKS = 11;

    private static final int CUT = -2;
    private static final int LOST = -3;
    private static final int UNDER_WAY = -4;

    private static final int SHIFT = 0;
    private static final int WALK = 1;
    private static final int BRIDGE = 2;

    private final Ring ring;
    private final Store store;
    private final Trip last;
    private final Trip probe;
    private final Sample sample;
    private final Forecast forecast;
    private final Ways ways;

    public ShiftRing() {
        ring = new Ring();
        store = new Store();
        last = new Trip(ring);
        probe = new Trip(ring);
        sample = new Sample(ring);
        forecast = new Forecast(sample);
        ways = new Ways();
    }

    // ---- nodes, tables, settings ----

    public int join(int place) throws IllegalArgumentException, IllegalStateException {
        needPlace(place);
        if (ring.size >= MOST_NODES || ring.isTaken(place)) {
            throw new IllegalStateException("there is no room for the node");
        }
        return ring.addNode(place);
    }

    public int down(int node) throws IndexOutOfBoundsException, IllegalStateException {
        needNode(node);
        needUp(node);
        ring.takeDown(ring.of(node));
        return ring.upCount;
    }

    public int up(int node) throws IndexOutOfBoundsException, IllegalStateException {
        needNode(node);
        if (ring.of(node).up) {
            throw new IllegalStateException("the node is up");
        }
        ring.bringUp(ring.of(node));
        return ring.upCount;
    }

    public int mend(int node) throws IndexOutOfBoundsException, IllegalStateException {
        needNode(node);
        needUp(node);
        int stale = ring.staleOf(ring.of(node));
        ring.layAgain(ring.of(node));
        return stale;
    }

    public int mendAll() {
        int stale = ring.staleOfAll();
        ring.layAllAgain();
        return stale;
    }

    public int turn(int base) throws IllegalArgumentException {
        needBase(base);
        int before = ring.base;
        ring.setBase(base);
        return before;
    }

    public int degree(int degree) throws IllegalArgumentException {
        needDegree(degree);
        int before = ring.degree;
        ring.degree = degree;
        return before;
    }

    public int spot(int node, int spot) throws IndexOutOfBoundsException, IllegalArgumentException {
        needNode(node);
        if (spot < 0 || spot > MOST_SPOT) {
            throw new IllegalArgumentException("there is no such spot");
        }
        Node it = ring.of(node);
        int before = it.spot;
        it.spot = spot;
        return before;
    }

    // ---- the latest lookup ----

    public int lookup(int node, int key, boolean best)
            throws IndexOutOfBoundsException, IllegalArgumentException, IllegalStateException {
        needNode(node);
        needPlace(key);
        needUp(node);
        return last.travel(ring, ring.of(node), key, best);
    }

    public int latest(int what) throws NoSuchElementException {
        needWhat(what, 8);
        switch (what) {
            case 0: return last.hops;
            case 1: return last.shifts;
            case 2: return last.walks;
            case 3: return last.bridges;
            case 4: return last.right ? 1 : 0;
            case 5: return last.steps;
            case 6: return last.spared;
            case 7: return last.at.number;
            default: return last.time;
        }
    }

    public int step(int k, int what) throws NoSuchElementException {
        needWhat(what, 3);
        return last.partOfStep(k, what);
    }

    public int why(int k) {
        return last.cutBy.at(k);
    }

    // ---- what stands where ----

    public int owner(int key) throws IllegalArgumentException {
        needPlace(key);
        return ring.firstFrom(key).number;
    }

    public int node(int node, int what) throws IndexOutOfBoundsException, NoSuchElementException {
        needNode(node);
        needWhat(what, 11);
        Node it = ring.of(node);
        switch (what) {
            case 0: return it.place;
            case 1: return it.up ? 1 : 0;
            case 2: return it.table.base;
            case 3: return it.table.successors.size;
            case 4: return it.table.pointers.size;
            case 5: return it.linkBits();
            case 6: return ring.bitsOfThoseLinkedTo(node);
            default: return it.up ? partOfUpNode(it, what) : NONE;
        }
    }

    private int partOfUpNode(Node it, int what) {
        switch (what) {
            case 7: return ring.staleOf(it);
            case 8: return it.next;
            case 9: return it.load;
            case 10: return forecast.harmOf(ring, it.number);
            default: return it.next == NONE ? NONE : it.arc;
        }
    }

    public int link(int node, int k, boolean pointer) throws IndexOutOfBoundsException {
        needNode(node);
        Table table = ring.of(node).table;
        return pointer ? table.pointers.at(k) : table.successors.at(k);
    }

    public int host(int place) throws IllegalArgumentException {
        needPlace(place);
        return ring.lastBackFrom(place).number;
    }

    // ---- letters ----

    public int letter(int place, int k) throws IllegalArgumentException {
        needPlace(place);
        return k >= 0 && k < ring.letters ? ring.letterOf(place, k) : NONE;
    }

    public int overlap(int place, int other) throws IllegalArgumentException {
        needPlace(place);
        needPlace(other);
        return ring.overlapOf(place, other);
    }

    public int shifted(int place, int other, int k) throws IllegalArgumentException {
        needPlace(place);
        needPlace(other);
        int shared = ring.overlapOf(place, other);
        if (k < 0 || k > ring.letters - shared) {
            return NONE;
        }
        int shiftedPlace = place;
        for (int j = 0; j < k; j++) {
            shiftedPlace = ring.shiftIn(shiftedPlace, ring.letterOf(other, shared + j));
        }
        return shiftedPlace;
    }

    // ---- single lookups that nobody remembers ----

    public int start(int node, int key)
            throws IndexOutOfBoundsException, IllegalArgumentException, IllegalStateException {
        needStart(node, key);
        probe.setOut(ring, ring.of(node), key, true);
        return probe.imaginary;
    }

    public int ideal(int node, int key)
            throws IndexOutOfBoundsException, IllegalArgumentException, IllegalStateException {
        needStart(node, key);
        return probe.idealHops(ring, ring.of(node), key);
    }

    public int takes(int node, int key)
            throws IndexOutOfBoundsException, IllegalArgumentException, IllegalStateException {
        needNode(node);
        needPlace(key);
        needUp(node);
        return hopsIfRight(ring.of(node), key);
    }

    public int worst(int node) throws IndexOutOfBoundsException, IllegalStateException {
        needNode(node);
        needUp(node);
        int worstKey = NONE;
        int most = NONE;
        for (int key = 0; key < PLACES; key += SAMPLE_GAP) {
            int hops = hopsIfRight(ring.of(node), key);
            if (hops > most) {
                most = hops;
                worstKey = key;
            }
        }
        return worstKey;
    }

    public int nearest(int key) throws IllegalArgumentException {
        needPlace(key);
        return bestToAsk(key, false);
    }

    public int quickest(int key) throws IllegalArgumentException {
        needPlace(key);
        return bestToAsk(key, true);
    }

    public int detour(int key) throws IllegalArgumentException {
        needPlace(key);
        int together = 0;
        for (int n = 0; n < ring.size; n++) {
            Node from = ring.of(n);
            int hops = from.up ? hopsIfRight(from, key) : NONE;
            if (hops != NONE) {
                together += hops - probe.idealHops(ring, from, key);
            }
        }
        return together;
    }

    private int hopsIfRight(Node from, int key) {
        probe.travel(ring, from, key, true);
        return probe.right ? probe.hops : NONE;
    }

    private int bestToAsk(int key, boolean byTime) {
        int found = NONE;
        int least = 0;
        for (int n = 0; n < ring.size; n++) {
            int hops = ring.of(n).up ? hopsIfRight(ring.of(n), key) : NONE;
            int price = byTime ? probe.time : hops;
            if (hops != NONE && (found == NONE || price < least)) {
                found = n;
                least = price;
            }
        }
        return found;
    }

    // ---- ways by links ----

    public int far(int node, int other) throws IndexOutOfBoundsException, IllegalStateException {
        needNode(node);
        needNode(other);
        needUp(node);
        needUp(other);
        return ways.fewestLinks(ring, node, other);
    }

    public int apart(int node, int other)
            throws IndexOutOfBoundsException, IllegalArgumentException, IllegalStateException {
        needNode(node);
        needNode(other);
        if (node == other) {
            throw new IllegalArgumentException("both are one");
        }
        needUp(node);
        needUp(other);
        return ways.waysApart(ring, node, other);
    }

    // ---- many lookups, and what would be ----

    public int sample(boolean best, int what) throws NoSuchElementException {
        needWhat(what, 7);
        sample.run(ring, best, false);
        switch (what) {
            case 0: return sample.hops;
            case 1: return sample.shifts;
            case 2: return sample.walks;
            case 3: return sample.bridges;
            case 4: return sample.wrong;
            case 5: return sample.mostHops;
            case 6: return sample.time;
            default: return sample.mostTime;
        }
    }

    public int traffic(int node) throws IndexOutOfBoundsException, IllegalStateException {
        needNode(node);
        needUp(node);
        sample.run(ring, true, true);
        return sample.visitsOf(node);
    }

    public int better(int node) throws IndexOutOfBoundsException {
        needNode(node);
        sample.run(ring, true, true);
        return sample.bestSpot(ring, node);
    }

    public int cost(int base, int degree) throws IllegalArgumentException {
        needBase(base);
        needDegree(degree);
        return forecast.costOf(ring, base, degree);
    }

    public int choice(int links) throws IllegalArgumentException {
        if (links < LEAST_LINKS || links > MOST_LINKS) {
            throw new IllegalArgumentException("so many links cannot be");
        }
        return forecast.bestChoice(ring, links - MOST_SUCCESSORS);
    }

    public int enough(int hops) throws IllegalArgumentException {
        if (hops < 1 || hops > MOST_STEPS) {
            throw new IllegalArgumentException("so many hops cannot be");
        }
        return forecast.leastDegreeFor(ring, hops);
    }

    // ---- values ----

    public int copies(int n) throws IllegalArgumentException {
        if (n < 1 || n > MOST_COPIES) {
            throw new IllegalArgumentException("so many copies cannot be");
        }
        int before = store.copies;
        store.copies = n;
        return before;
    }

    public int put(int node, int key, int value)
            throws IndexOutOfBoundsException, IllegalArgumentException, IllegalStateException {
        needNode(node);
        needPlace(key);
        if (value < 0 || value > MOST_VALUE) {
            throw new IllegalArgumentException("there is no such value");
        }
        needUp(node);
        if (!store.hasRoomFor(key)) {
            throw new IllegalStateException("too many keys are known");
        }
        return store.keepAt(ring, endOfLookup(node, key), key, value);
    }

    public int get(int node, int key)
            throws IndexOutOfBoundsException, IllegalArgumentException, IllegalStateException {
        needNode(node);
        needPlace(key);
        needUp(node);
        return store.tellAt(ring, endOfLookup(node, key), key);
    }

    private Node endOfLookup(int node, int key) {
        int end = last.travel(ring, ring.of(node), key, true);
        if (end < 0) {
            throw new IllegalStateException("the lookup is cut or lost");
        }
        return ring.of(end);
    }

    public int settle(int node) throws IndexOutOfBoundsException, IllegalStateException {
        needNode(node);
        needUp(node);
        return store.settleFrom(ring, node);
    }

    public int held(int node, int key, int what)
            throws IndexOutOfBoundsException, NoSuchElementException, IllegalArgumentException {
        needNode(node);
        needWhat(what, 1);
        needPlace(key);
        Entry entry = store.entryOf(key);
        if (!entry.isHeldBy(node)) {
            return NONE;
        }
        return what == 0 ? entry.valueAt(node) : entry.versionAt(node);
    }

    public int about(int key, int what) throws NoSuchElementException, IllegalArgumentException {
        needWhat(what, 3);
        needPlace(key);
        switch (what) {
            case 0: return ring.keeperBits(key, store.copies);
            case 1: return store.entryOf(key).bitsOfHolders(true);
            case 2: return store.entryOf(key).bitsOfHolders(false);
            default: return store.entryOf(key).newest;
        }
    }

    // ---- counts ----

    public int count(int what) {
        switch (what) {
            case 0: return ring.size;
            case 1: return ring.upCount;
            case 2: return ring.base;
            case 3: return ring.degree;
            case 4: return ring.letters;
            case 5: return ways.widthOf(ring);
            case 6: return ring.staleOfAll();
            case 7: return ring.mostLoaded().number;
            case 8: return forecast.mostHarmful(ring);
            case 9: return ring.mostLinks();
            case 10: return forecast.firstToMend(ring);
            case 11: return store.known;
            case 12: return store.countOfMissing(ring);
            case 13: return store.puts;
            case 14: return ring.gapOfLoads();
            case 15: return ring.placeToSplit();
            case 16: return busiest();
            default: return NONE;
        }
    }

    private int busiest() {
        sample.run(ring, true, true);
        int found = NONE;
        int most = NONE;
        for (int n = 0; n < ring.size; n++) {
            if (ring.of(n).up && sample.visitsOf(n) > most) {
                most = sample.visitsOf(n);
                found = n;
            }
        }
        return found;
    }

    // ---- what a call needs ----

    private void needNode(int node) {
        if (!ring.has(node)) {
            throw new IndexOutOfBoundsException("there is no such node");
        }
    }

    private void needUp(int node) {
        if (!ring.of(node).up) {
            throw new IllegalStateException("the node is down");
        }
    }

    private void needStart(int node, int key) {
        needNode(node);
        needPlace(key);
        if (ring.of(node).next == NONE) {
            throw new IllegalStateException("the node, or all its successors are down");
        }
    }

    private static void needPlace(int place) {
        if (place < 0 || place > LAST_PLACE) {
            throw new IllegalArgumentException("there is no such place");
        }
    }

    private static void needBase(int base) {
        if (bitsOf(base) == 0) {
            throw new IllegalArgumentException("there is no such base");
        }
    }

    private static void needDegree(int degree) {
        if (degree < 1 || degree > MOST_DEGREE) {
            throw new IllegalArgumentException("there is no such degree");
        }
    }

    private static void needWhat(int what, int most) {
        if (what < 0 || what > most) {
            throw new NoSuchElementException("there is no such what");
        }
    }

    // ---- places ----

    /** The bits of a letter; 0 for what is no base. */
    private static int bitsOf(int base) {
        switch (base) {
            case 2: return 1;
            case 4: return 2;
            case 8: return 3;
            case 16: return 4;
            default: return 0;
        }
    }

    private static int onward(int from, int to) {
        return (to - from) & LAST_PLACE;
    }

    /** As onward(), but all round where both are one: so long is an arc, so much is a load. */
    private static int stretch(int from, int to) {
        return from == to ? PLACES : onward(from, to);
    }

    private static int bit(int number) {
        return 1 << number;
    }

    private static boolean hasBit(int bits, int number) {
        return (bits & bit(number)) != 0;
    }

    /** A few numbers in a row; what is outside of it is NONE. */
    private static final class Row {
        private final int[] items = new int[MOST_DEGREE];
        private int size;

        void empty() {
            size = 0;
        }

        void add(int item) {
            if (size >= 0 && size < items.length) {
                items[size] = item;
                size++;
            }
        }

        int at(int k) {
            return k >= 0 && k < size && k < items.length ? items[k] : NONE;
        }

        void copyFrom(Row other) {
            empty();
            for (int k = 0; k < other.size; k++) {
                add(other.at(k));
            }
        }

        int differencesTo(Row other) {
            int differences = 0;
            for (int k = 0; k < items.length; k++) {
                if (at(k) != other.at(k)) {
                    differences++;
                }
            }
            return differences;
        }

        int bits() {
            int bits = 0;
            for (int k = 0; k < size; k++) {
                bits |= bit(at(k));
            }
            return bits;
        }
    }

    /** A node's links as they were laid; its first pointer is the hinge. */
    private static final class Table {
        private int base;
        private final Row successors = new Row();
        private final Row pointers = new Row();

        void copyFrom(Table other) {
            base = other.base;
            successors.copyFrom(other.successors);
            pointers.copyFrom(other.pointers);
        }

        int differencesTo(Table other) {
            return successors.differencesTo(other.successors)
                    + pointers.differencesTo(other.pointers)
                    + (base == other.base ? 0 : 1);
        }
    }

    /**
     * A node. What follows from all tables and from who is up (next, arc, load) is kept beside
     * them, since a sample asks for it at each step: Ring.refresh() keeps it true.
     */
    private static final class Node {
        private final int number;
        private int place;
        private boolean up;
        private int spot;
        private final Table table = new Table();
        private int next = NONE;
        private int arc;
        private int load;

        Node(int number) {
            this.number = number;
        }

        void copyFrom(Node other) {
            place = other.place;
            up = other.up;
            spot = other.spot;
            table.copyFrom(other.table);
        }

        int linkBits() {
            return (table.successors.bits() | table.pointers.bits()) & ~bit(number);
        }

        boolean isInArc(int somePlace) {
            return onward(place, somePlace) < arc;
        }

        boolean owns(int key) {
            return onward(key, place) < load;
        }
    }

    /** The nodes with their tables, and the base and degree by which tables are laid now. */
    private static final class Ring {
        private final Node[] nodes = new Node[MOST_NODES];
        private final Node nobody = new Node(NONE);
        private final Table fresh = new Table();
        private int size;
        private int upCount;
        private int base;
        private int bits;
        private int letters;
        private int degree = 4;

        Ring() {
            for (int n = 0; n < nodes.length; n++) {
                nodes[n] = new Node(n);
            }
            setBase(4);
        }

        void setBase(int newBase) {
            base = newBase;
            bits = bitsOf(newBase);
            letters = bits > 0 ? PLACE_BITS / bits : 0;
        }

        boolean has(int number) {
            return number >= 0 && number < size;
        }

        /** Nobody (down, and without a number) for what is no node: so no answer is null. */
        Node of(int number) {
            return number >= 0 && number < nodes.length ? nodes[number] : nobody;
        }

        boolean isTaken(int place) {
            for (int n = 0; n < size; n++) {
                if (of(n).place == place) {
                    return true;
                }
            }
            return false;
        }

        int addNode(int place) {
            Node node = of(size);
            size++;
            node.place = place;
            bringUp(node);
            return node.number;
        }

        void bringUp(Node node) {
            node.up = true;
            layAgain(node);
        }

        void takeDown(Node node) {
            node.up = false;
            refresh();
        }

        void layAgain(Node node) {
            layInto(node.table, node);
            refresh();
        }

        void layAllAgain() {
            for (int n = 0; n < size; n++) {
                if (of(n).up) {
                    layInto(of(n).table, of(n));
                }
            }
            refresh();
        }

        private void layInto(Table table, Node node) {
            table.base = base;
            table.successors.empty();
            Node other = firstFrom(node.place + 1);
            for (int k = 0; k < MOST_SUCCESSORS && other != node; k++) {
                table.successors.add(other.number);
                other = firstFrom(other.place + 1);
            }
            table.pointers.empty();
            Node hinge = lastBackFrom(node.place * base);
            other = hinge;
            for (int k = 0; k < degree && (k == 0 || other != hinge); k++) {
                table.pointers.add(other.number);
                other = firstFrom(other.place + 1);
            }
        }

        private void refresh() {
            upCount = 0;
            for (int n = 0; n < size; n++) {
                refreshNode(of(n));
            }
        }

        private void refreshNode(Node node) {
            node.next = NONE;
            node.arc = 0;
            node.load = 0;
            if (!node.up) {
                return;
            }
            upCount++;
            node.next = findNext(node);
            if (node.next != NONE) {
                node.arc = stretch(node.place, of(node.next).place);
            }
            node.load = stretch(lastBackFrom(node.place - 1).place, node.place);
        }

        private int findNext(Node node) {
            Row successors = node.table.successors;
            for (int k = 0; k < successors.size; k++) {
                if (of(successors.at(k)).up) {
                    return successors.at(k);
                }
            }
            return successors.size == 0 ? node.number : NONE;
        }

        /** The first up node from a place on; nobody where none is up. */
        Node firstFrom(int place) {
            Node found = nobody;
            int least = PLACES;
            for (int n = 0; n < size; n++) {
                Node node = of(n);
                if (node.up && onward(place, node.place) < least) {
                    least = onward(place, node.place);
                    found = node;
                }
            }
            return found;
        }

        /** The last up node from a place back; nobody where none is up. */
        Node lastBackFrom(int place) {
            Node found = nobody;
            int least = PLACES;
            for (int n = 0; n < size; n++) {
                Node node = of(n);
                if (node.up && onward(node.place, place) < least) {
                    least = onward(node.place, place);
                    found = node;
                }
            }
            return found;
        }

        /** The last live pointer that is not beyond an imaginary place; nobody without one. */
        Node pointerFor(Node node, int imaginary) {
            Row pointers = node.table.pointers;
            int hinge = of(pointers.at(0)).place;
            int reach = onward(hinge, imaginary);
            for (int k = pointers.size - 1; k >= 0; k--) {
                Node pointer = of(pointers.at(k));
                if (pointer.up && onward(hinge, pointer.place) <= reach) {
                    return pointer;
                }
            }
            return nobody;
        }

        int staleOf(Node node) {
            layInto(fresh, node);
            return node.table.differencesTo(fresh);
        }

        int staleOfAll() {
            int stale = 0;
            for (int n = 0; n < size; n++) {
                if (of(n).up) {
                    stale += staleOf(of(n));
                }
            }
            return stale;
        }

        int bitsOfThoseLinkedTo(int number) {
            int found = 0;
            for (int n = 0; n < size; n++) {
                if (hasBit(of(n).linkBits(), number)) {
                    found |= bit(n);
                }
            }
            return found;
        }

        int upBits() {
            int found = 0;
            for (int n = 0; n < size; n++) {
                if (of(n).up) {
                    found |= bit(n);
                }
            }
            return found;
        }

        int keeperBits(int key, int copies) {
            int found = 0;
            Node keeper = firstFrom(key);
            for (int k = 0; k < copies && keeper != nobody; k++) {
                found |= bit(keeper.number);
                keeper = firstFrom(keeper.place + 1);
            }
            return found;
        }

        int mostLinks() {
            int most = 0;
            for (int n = 0; n < size; n++) {
                if (of(n).up) {
                    most = Math.max(most, Integer.bitCount(of(n).linkBits()));
                }
            }
            return most;
        }

        Node mostLoaded() {
            Node found = nobody;
            for (int n = 0; n < size; n++) {
                if (of(n).up && of(n).load > found.load) {
                    found = of(n);
                }
            }
            return found;
        }

        int gapOfLoads() {
            int most = mostLoaded().load;
            int least = most;
            for (int n = 0; n < size; n++) {
                if (of(n).up) {
                    least = Math.min(least, of(n).load);
                }
            }
            return most - least;
        }

        int placeToSplit() {
            Node node = mostLoaded();
            int place = (node.place - node.load + node.load / 2) & LAST_PLACE;
            return node == nobody || isTaken(place) ? NONE : place;
        }

        int letterOf(int place, int k) {
            return (place >> (bits * (letters - 1 - k))) & (base - 1);
        }

        int shiftIn(int place, int letter) {
            return (place * base + letter) & LAST_PLACE;
        }

        int overlapOf(int place, int other) {
            int missing = 0;
            while (missing < letters && withoutFirst(place, missing) != withoutLast(other, missing)) {
                missing++;
            }
            return letters - missing;
        }

        /** What is left of a place as a number, its first letters taken away. */
        int withoutFirst(int place, int count) {
            return place & (LAST_PLACE >> (bits * count));
        }

        int withoutLast(int place, int count) {
            return place >> (bits * count);
        }

        void copyFrom(Ring other) {
            setBase(other.base);
            degree = other.degree;
            size = other.size;
            for (int n = 0; n < size; n++) {
                of(n).copyFrom(other.of(n));
            }
            refresh();
        }
    }

    /** One lookup: where it is, where it went, how it ended. */
    private static final class Trip {
        private static final int STEP_PARTS = 4;

        private Ring ring;
        private int key;
        private boolean best;
        private Node at;
        private int imaginary;
        private int left;
        private int end = UNDER_WAY;
        private boolean right;
        private int steps;
        private int hops;
        private int shifts;
        private int walks;
        private int bridges;
        private int time;
        private int spared;
        private final int[] record = new int[STEP_PARTS * MOST_STEPS];
        private final Row cutBy = new Row();

        Trip(Ring ring) {
            this.ring = ring;
            this.at = ring.nobody;
        }

        /** Goes all the way; answers the node with which it ends, CUT or LOST. */
        int travel(Ring where, Node from, int wanted, boolean fromBest) {
            setOut(where, from, wanted, fromBest);
            for (int k = 0; k <= MOST_STEPS && end == UNDER_WAY; k++) {
                end = endHere();
                if (end == UNDER_WAY) {
                    takeStep();
                }
            }
            if (end == CUT) {
                rememberWhy();
            }
            right = ring.of(end).owns(key);
            return end;
        }

        void setOut(Ring where, Node from, int wanted, boolean fromBest) {
            ring = where;
            at = from;
            key = wanted;
            best = fromBest;
            end = UNDER_WAY;
            steps = 0;
            hops = 0;
            shifts = 0;
            walks = 0;
            bridges = 0;
            time = 0;
            cutBy.empty();
            startHere();
            spared = ring.letters - left;
        }

        /**
         * Places with the same last letters come again and again along the ring, so only the first
         * of them from the node on need be tried, for each number of letters.
         */
        private void startHere() {
            imaginary = at.place;
            left = ring.letters;
            int tries = best && at.next != NONE ? ring.letters : 0;
            for (int missing = 0; missing < tries; missing++) {
                int wanted = ring.withoutLast(key, missing);
                int offset = ring.withoutFirst(wanted - at.place, missing);
                if (offset < at.arc) {
                    imaginary = (at.place + offset) & LAST_PLACE;
                    left = missing;
                    return;
                }
            }
        }

        private int endHere() {
            if (at.next == NONE) {
                return CUT;
            }
            int way = onward(at.place, key);
            if (way == 0) {
                return at.number;
            }
            if (way <= at.arc) {
                return at.next;
            }
            return steps < MOST_STEPS ? UNDER_WAY : LOST;
        }

        private void takeStep() {
            boolean isOld = at.table.base != ring.base;
            if (!isOld && (left == 0 || !at.isInArc(imaginary))) {
                walks++;
                pass(WALK, ring.of(at.next));
                return;
            }
            int shiftedPlace = isOld ? imaginary : shiftedOnce();
            Node pointer = isOld ? ring.nobody : ring.pointerFor(at, shiftedPlace);
            if (pointer.up) {
                shifts++;
                pass(SHIFT, pointer);
                imaginary = shiftedPlace;
                left--;
            } else {
                bridges++;
                pass(BRIDGE, ring.of(at.next));
                startHere();
            }
        }

        private int shiftedOnce() {
            return ring.shiftIn(imaginary, ring.letterOf(key, ring.letters - left));
        }

        private void pass(int kind, Node to) {
            remember(kind);
            if (to != at) {
                hops++;
                time += 1 + Math.abs(at.spot - to.spot);
            }
            at = to;
        }

        private void remember(int kind) {
            int first = STEP_PARTS * steps;
            if (first >= 0 && first + 3 < record.length) {
                record[first] = at.number;
                record[first + 1] = imaginary;
                record[first + 2] = left;
                record[first + 3] = kind;
                steps++;
            }
        }

        int partOfStep(int k, int part) {
            if (k < 0 || k >= steps || part < 0 || part >= STEP_PARTS) {
                return NONE;
            }
            int index = STEP_PARTS * k + part;
            return index < record.length ? record[index] : NONE;
        }

        /** The node that a step led to. */
        int nodeBehindStep(int k) {
            return k + 1 < steps ? partOfStep(k + 1, 0) : at.number;
        }

        private void rememberWhy() {
            cutBy.add(at.number);
            Row successors = at.table.successors;
            for (int k = successors.size - 1; k >= 0; k--) {
                cutBy.add(successors.at(k));
            }
        }

        /** Hops if each shift led to the host of the imaginary place; the node has a next. */
        int idealHops(Ring where, Node from, int wanted) {
            setOut(where, from, wanted, true);
            int ideal = 0;
            Node reached = from;
            for (; left > 0; left--) {
                imaginary = shiftedOnce();
                Node host = ring.lastBackFrom(imaginary);
                if (host != reached) {
                    ideal++;
                }
                reached = host;
            }
            return reached.owns(key) ? ideal : ideal + 1;
        }
    }

    /** All lookups of a sample, and what they came to together. */
    private static final class Sample {
        private final Trip trip;
        private final int[] visits = new int[MOST_NODES];
        private final int[] crossings = new int[MOST_NODES * MOST_NODES];
        private int hops;
        private int shifts;
        private int walks;
        private int bridges;
        private int wrong;
        private int mostHops;
        private int time;
        private int mostTime;

        Sample(Ring ring) {
            trip = new Trip(ring);
        }

        /** Only a traced run knows visits and crossings: most need none of these. */
        void run(Ring ring, boolean best, boolean traced) {
            reset();
            for (int n = 0; n < ring.size; n++) {
                Node from = ring.of(n);
                for (int key = 0; key < PLACES && from.up; key += SAMPLE_GAP) {
                    trip.travel(ring, from, key, best);
                    addTrip();
                    if (traced) {
                        traceTrip();
                    }
                }
            }
        }

        private void reset() {
            hops = 0;
            shifts = 0;
            walks = 0;
            bridges = 0;
            wrong = 0;
            mostHops = 0;
            time = 0;
            mostTime = 0;
            Arrays.fill(visits, 0);
            Arrays.fill(crossings, 0);
        }

        private void addTrip() {
            hops += trip.hops;
            shifts += trip.shifts;
            walks += trip.walks;
            bridges += trip.bridges;
            wrong += trip.right ? 0 : 1;
            mostHops = Math.max(mostHops, trip.hops);
            time += trip.time;
            mostTime = Math.max(mostTime, trip.time);
        }

        private void traceTrip() {
            int seen = 0;
            for (int k = 0; k < trip.steps; k++) {
                int from = trip.partOfStep(k, 0);
                int to = trip.nodeBehindStep(k);
                if (from != to) {
                    addHop(from, to, !hasBit(seen, to));
                    seen |= bit(to);
                }
            }
        }

        private void addHop(int from, int to, boolean isFirst) {
            int crossing = crossingOf(from, to);
            if (crossing >= 0 && crossing < crossings.length) {
                crossings[crossing]++;
            }
            if (isFirst && to >= 0 && to < visits.length) {
                visits[to]++;
            }
        }

        private static int crossingOf(int from, int to) {
            return from * MOST_NODES + to;
        }

        int visitsOf(int number) {
            return number >= 0 && number < visits.length ? visits[number] : 0;
        }

        private int crossingsOf(int from, int to) {
            int crossing = crossingOf(from, to);
            return crossing >= 0 && crossing < crossings.length ? crossings[crossing] : 0;
        }

        /**
         * By a traced run. Which way a lookup goes hangs on no spot, so the same hops are weighed
         * with each spot in turn.
         */
        int bestSpot(Ring ring, int node) {
            int found = 0;
            int least = timeFromTo(ring, node, 0);
            for (int spot = 1; spot <= MOST_SPOT; spot++) {
                int sum = timeFromTo(ring, node, spot);
                if (sum < least) {
                    least = sum;
                    found = spot;
                }
            }
            return found;
        }

        private int timeFromTo(Ring ring, int node, int spot) {
            int sum = 0;
            for (int n = 0; n < ring.size; n++) {
                int crossed = crossingsOf(node, n) + crossingsOf(n, node);
                sum += crossed * Math.abs(spot - ring.of(n).spot);
            }
            return sum;
        }
    }

    /** Answers what would be, by a ring of its own that is laid out otherwise. */
    private static final class Forecast {
        private final Ring trial = new Ring();
        private final Sample sample;

        Forecast(Sample sample) {
            this.sample = sample;
        }

        int costOf(Ring ring, int base, int degree) {
            trial.copyFrom(ring);
            runLaidBy(base, degree);
            return sample.hops;
        }

        private void runLaidBy(int base, int degree) {
            trial.setBase(base);
            trial.degree = degree;
            trial.layAllAgain();
            sample.run(trial, true, false);
        }

        /** Pointers beyond all up nodes change no table, so no such degree can be the least. */
        int bestChoice(Ring ring, int mostDegree) {
            trial.copyFrom(ring);
            int found = 0;
            int least = 0;
            int lastDegree = Math.max(1, Math.min(mostDegree, ring.upCount));
            for (int degree = 1; degree <= lastDegree; degree++) {
                for (int base = 2; base <= MOST_BASE; base *= 2) {
                    runLaidBy(base, degree);
                    if (found == 0 || sample.hops < least) {
                        least = sample.hops;
                        found = 100 * base + degree;
                    }
                }
            }
            return found;
        }

        int leastDegreeFor(Ring ring, int mostHops) {
            trial.copyFrom(ring);
            for (int degree = 1; degree <= MOST_DEGREE; degree++) {
                runLaidBy(ring.base, degree);
                if (sample.mostHops <= mostHops) {
                    return degree;
                }
            }
            return NONE;
        }

        int harmOf(Ring ring, int number) {
            trial.copyFrom(ring);
            trial.takeDown(trial.of(number));
            sample.run(trial, true, false);
            return sample.wrong;
        }

        int mostHarmful(Ring ring) {
            int found = NONE;
            int most = NONE;
            for (int n = 0; n < ring.size; n++) {
                int harm = ring.of(n).up ? harmOf(ring, n) : NONE;
                if (harm > most) {
                    most = harm;
                    found = n;
                }
            }
            return found;
        }

        int firstToMend(Ring ring) {
            int found = NONE;
            int least = 0;
            for (int n = 0; n < ring.size; n++) {
                int hops = ring.of(n).up ? hopsIfMended(ring, n) : NONE;
                if (hops != NONE && (found == NONE || hops < least)) {
                    least = hops;
                    found = n;
                }
            }
            return found;
        }

        private int hopsIfMended(Ring ring, int number) {
            trial.copyFrom(ring);
            trial.layAgain(trial.of(number));
            sample.run(trial, true, false);
            return sample.hops;
        }
    }

    /** Ways by links that lead from up nodes to up nodes. */
    private static final class Ways {
        /** Each node is two stations, its entry (its number) and its exit (behind all entries). */
        private static final int STATIONS = 2 * MOST_NODES;

        private final int[] links = new int[MOST_NODES];
        private final long[] open = new long[STATIONS];
        private final int[] cameFrom = new int[STATIONS];

        int fewestLinks(Ring ring, int first, int second) {
            readLinks(ring);
            return linksToAll(first, bit(second));
        }

        int widthOf(Ring ring) {
            readLinks(ring);
            int all = ring.upBits();
            int width = 0;
            for (int n = 0; n < ring.size; n++) {
                int most = hasBit(all, n) ? linksToAll(n, all) : 0;
                if (most == NONE) {
                    return NONE;
                }
                width = Math.max(width, most);
            }
            return width;
        }

        private void readLinks(Ring ring) {
            int all = ring.upBits();
            for (int n = 0; n < links.length; n++) {
                links[n] = hasBit(all, n) ? ring.of(n).linkBits() & all : 0;
            }
        }

        /** After how many links all that are wanted have been come to; NONE, if never. */
        private int linksToAll(int first, int wanted) {
            int seen = bit(first);
            for (int taken = 0; taken < MOST_NODES; taken++) {
                if ((wanted & ~seen) == 0) {
                    return taken;
                }
                seen |= linkedFrom(seen);
            }
            return NONE;
        }

        private int linkedFrom(int some) {
            int found = 0;
            for (int n = 0; n < links.length; n++) {
                if (hasBit(some, n)) {
                    found |= links[n];
                }
            }
            return found;
        }

        /** As many as can be found by opening one way more, which may undo parts of others. */
        int waysApart(Ring ring, int first, int second) {
            readLinks(ring);
            openStations();
            int found = 0;
            while (found < MOST_NODES && findWay(MOST_NODES + first, second)) {
                turnWay(MOST_NODES + first, second);
                found++;
            }
            return found;
        }

        /** One way through each node: from its entry to its exit; from there to all its links. */
        private void openStations() {
            for (int n = 0; n < links.length && MOST_NODES + n < open.length; n++) {
                open[n] = stationBit(MOST_NODES + n);
                open[MOST_NODES + n] = links[n];
            }
        }

        private static long stationBit(int station) {
            return 1L << station;
        }

        private boolean findWay(int source, int target) {
            long seen = stationBit(source);
            long edge = seen;
            for (int k = 0; k < STATIONS && edge != 0L && (seen & stationBit(target)) == 0L; k++) {
                edge = openFromEdge(edge, seen);
                seen |= edge;
            }
            return (seen & stationBit(target)) != 0L;
        }

        /** The stations one step beyond the edge, and for each of them whence one comes to it. */
        private long openFromEdge(long edge, long seen) {
            long beyond = 0L;
            for (int from = 0; from < open.length; from++) {
                if ((edge & stationBit(from)) != 0L) {
                    long ahead = open[from] & ~seen & ~beyond;
                    rememberOrigin(ahead, from);
                    beyond |= ahead;
                }
            }
            return beyond;
        }

        private void rememberOrigin(long ahead, int from) {
            for (int to = 0; to < cameFrom.length; to++) {
                if ((ahead & stationBit(to)) != 0L) {
                    cameFrom[to] = from;
                }
            }
        }

        private void turnWay(int source, int target) {
            int to = target;
            for (int k = 0; k < STATIONS && to != source; k++) {
                int from = to >= 0 && to < cameFrom.length ? cameFrom[to] : source;
                turnLink(from, to);
                to = from;
            }
        }

        private void turnLink(int from, int to) {
            if (from >= 0 && from < open.length && to >= 0 && to < open.length) {
                open[from] &= ~stationBit(to);
                open[to] |= stationBit(from);
            }
        }
    }

    /** What is known of one key: its newest version, and what each node holds of it. */
    private static final class Entry {
        private int key = NONE;
        private int newest;
        private final int[] values = new int[MOST_NODES];
        private final int[] versions = new int[MOST_NODES];

        /** 0 where nothing is held: versions begin with 1. */
        int versionAt(int node) {
            return node >= 0 && node < versions.length ? versions[node] : 0;
        }

        int valueAt(int node) {
            return node >= 0 && node < values.length ? values[node] : NONE;
        }

        boolean isHeldBy(int node) {
            return versionAt(node) > 0;
        }

        void hold(int node, int value, int version) {
            if (node >= 0 && node < values.length && node < versions.length) {
                values[node] = value;
                versions[node] = version;
            }
        }

        void drop(int node) {
            hold(node, 0, 0);
        }

        int bitsOfHolders(boolean ofNewest) {
            int found = 0;
            for (int n = 0; n < versions.length; n++) {
                if (isHeldBy(n) && (versionAt(n) == newest) == ofNewest) {
                    found |= bit(n);
                }
            }
            return found;
        }
    }

    /** The keys that were put, in the order in which they were first put. */
    private static final class Store {
        private final Entry[] entries = new Entry[MOST_KEYS];
        private final Entry unknown = new Entry();
        private int known;
        private int puts;
        private int copies = 2;

        Store() {
            for (int k = 0; k < entries.length; k++) {
                entries[k] = new Entry();
            }
        }

        private Entry entryAt(int k) {
            return k >= 0 && k < entries.length ? entries[k] : unknown;
        }

        /** An entry that nobody holds for a key that was never put: so no answer is null. */
        Entry entryOf(int key) {
            for (int k = 0; k < known; k++) {
                if (entryAt(k).key == key) {
                    return entryAt(k);
                }
            }
            return unknown;
        }

        boolean hasRoomFor(int key) {
            return known < MOST_KEYS || entryOf(key) != unknown;
        }

        private Entry entryToPut(int key) {
            Entry entry = entryOf(key);
            if (entry == unknown && known < MOST_KEYS) {
                entry = entryAt(known);
                entry.key = key;
                known++;
            }
            return entry;
        }

        int keepAt(Ring ring, Node end, int key, int value) {
            Entry entry = entryToPut(key);
            puts++;
            entry.newest = puts;
            entry.hold(end.number, value, puts);
            int holders = 1;
            Row successors = end.table.successors;
            for (int k = 0; k < successors.size && holders < copies; k++) {
                if (ring.of(successors.at(k)).up) {
                    entry.hold(successors.at(k), value, puts);
                    holders++;
                }
            }
            return holders;
        }

        int tellAt(Ring ring, Node end, int key) {
            Entry entry = entryOf(key);
            if (entry.isHeldBy(end.number)) {
                return entry.valueAt(end.number);
            }
            Row successors = end.table.successors;
            for (int k = 0; k < successors.size; k++) {
                int other = successors.at(k);
                if (ring.of(other).up && entry.isHeldBy(other)) {
                    return entry.valueAt(other);
                }
            }
            return NONE;
        }

        int settleFrom(Ring ring, int node) {
            int changes = 0;
            for (int k = 0; k < known; k++) {
                if (entryAt(k).isHeldBy(node)) {
                    changes += settleEntry(ring, entryAt(k), node);
                }
            }
            return changes;
        }

        private int settleEntry(Ring ring, Entry entry, int node) {
            int changes = 0;
            int keepers = ring.keeperBits(entry.key, copies);
            int version = entry.versionAt(node);
            for (int n = 0; n < ring.size; n++) {
                if (hasBit(keepers, n) && entry.versionAt(n) < version) {
                    entry.hold(n, entry.valueAt(node), version);
                    changes++;
                }
            }
            if (!hasBit(keepers, node)) {
                entry.drop(node);
                changes++;
            }
            return changes;
        }

        int countOfMissing(Ring ring) {
            int missing = 0;
            for (int k = 0; k < known; k++) {
                if ((entryAt(k).bitsOfHolders(true) & ring.upBits()) == 0) {
                    missing++;
                }
            }
            return missing;
        }
    }
}
