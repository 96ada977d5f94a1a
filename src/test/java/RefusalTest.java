import java.util.ArrayList;
import java.util.Arrays;
import java.util.List;

/**
 * What each call refuses. Its arguments are taken at their bounds and one beyond, in every
 * combination: of several exceptions the one told first is due, and a refused call changes nothing.
 */
public final class RefusalTest {
    private static final Class<?> INDEX = Check.INDEX;
    private static final Class<?> ARGUMENT = Check.ARGUMENT;
    private static final Class<?> STATE = Check.STATE;
    private static final Class<?> WHAT = Check.WHAT;
    private static final int MIN = Integer.MIN_VALUE;
    private static final int MAX = Integer.MAX_VALUE;

    /** A number for an argument, and what it is refused with; null, if it is not. */
    private record Choice(int number, Class<?> refusal) {
    }

    private interface Face {
        int call(ShiftRing x, int[] a);
    }

    /** The exceptions in the order in which the document tells them for the call. */
    private static final class Row {
        final String name;
        final Face face;
        final List<Class<?>> told;
        final Choice[][] arguments;
        boolean asksOnly;
        boolean wantsTwo;

        Row(String name, Face face, List<Class<?>> told, Choice[]... arguments) {
            this.name = name;
            this.face = face;
            this.told = told;
            this.arguments = arguments;
        }

        Row asksOnly() {
            asksOnly = true;
            return this;
        }

        /** Its first two arguments are not the same. */
        Row wantsTwo() {
            wantsTwo = true;
            return this;
        }
    }

    private static Choice[] choices(Class<?> refusal, int[] good, int... bad) {
        List<Choice> all = new ArrayList<>();
        for (int number : good) {
            all.add(new Choice(number, null));
        }
        for (int number : bad) {
            all.add(new Choice(number, refusal));
        }
        return all.toArray(new Choice[0]);
    }

    /** From the least one to the most, and one beyond on either side. */
    private static Choice[] from(int least, int most, Class<?> refusal) {
        return choices(refusal, new int[] {least, most}, least - 1, most + 1, MIN, MAX);
    }

    private static Choice[] what(int most) {
        return from(0, most, WHAT);
    }

    private static Choice[] or(Choice[] some, Class<?> refusal, int... bad) {
        List<Choice> all = new ArrayList<>(Arrays.asList(some));
        all.addAll(Arrays.asList(choices(refusal, new int[0], bad)));
        return all.toArray(new Choice[0]);
    }

    // Rings.used() has the nodes 0 to 4, of which 4 is down
    private static final Choice[] NODE = from(0, 4, INDEX);
    private static final Choice[] UP_NODE = or(choices(INDEX, new int[] {0, 3}, -1, 5, MIN, MAX), STATE, 4);
    private static final Choice[] DOWN_NODE = or(choices(INDEX, new int[] {4}, -1, 5, MIN, MAX), STATE, 0, 3);
    private static final Choice[] PLACE = from(0, 4095, ARGUMENT);
    private static final Choice[] FREE_PLACE = or(choices(ARGUMENT, new int[] {1, 4095}, -1, 4096, MIN, MAX),
            STATE, 0, 1024, 3584);
    private static final Choice[] BASE = choices(ARGUMENT, new int[] {2, 4, 8, 16},
            0, 1, 3, 5, 6, 7, 9, 10, 12, 15, 17, 32, 64, -1, -2, -4, -8, -16, MIN, MAX);
    private static final Choice[] DEGREE = from(1, 8, ARGUMENT);
    private static final Choice[] SPOT = from(0, 99, ARGUMENT);
    private static final Choice[] VALUE = from(0, 999, ARGUMENT);
    private static final Choice[] COPIES = from(1, 3, ARGUMENT);
    private static final Choice[] LINKS = from(4, 11, ARGUMENT);
    private static final Choice[] HOPS = from(1, 200, ARGUMENT);
    private static final Choice[] ANY = choices(null, new int[] {0, -1, 1, 12, MIN, MAX});
    private static final Choice[] FLAG = choices(null, new int[] {0, 1});

    private static final List<Class<?>> I = List.of(INDEX);
    private static final List<Class<?>> A = List.of(ARGUMENT);
    private static final List<Class<?>> W = List.of(WHAT);
    private static final List<Class<?>> AS = List.of(ARGUMENT, STATE);
    private static final List<Class<?>> IS = List.of(INDEX, STATE);
    private static final List<Class<?>> IA = List.of(INDEX, ARGUMENT);
    private static final List<Class<?>> IW = List.of(INDEX, WHAT);
    private static final List<Class<?>> WA = List.of(WHAT, ARGUMENT);
    private static final List<Class<?>> IAS = List.of(INDEX, ARGUMENT, STATE);
    private static final List<Class<?>> IWA = List.of(INDEX, WHAT, ARGUMENT);
    private static final List<Class<?>> NOTHING = List.of();

    private static final Row[] ROWS = {
        new Row("join", (x, a) -> x.join(a[0]), AS, FREE_PLACE),
        new Row("down", (x, a) -> x.down(a[0]), IS, UP_NODE),
        new Row("up", (x, a) -> x.up(a[0]), IS, DOWN_NODE),
        new Row("mend", (x, a) -> x.mend(a[0]), IS, UP_NODE),
        new Row("mendAll", (x, a) -> x.mendAll(), NOTHING),
        new Row("turn", (x, a) -> x.turn(a[0]), A, BASE),
        new Row("degree", (x, a) -> x.degree(a[0]), A, DEGREE),
        new Row("spot", (x, a) -> x.spot(a[0], a[1]), IA, NODE, SPOT),
        new Row("lookup", (x, a) -> x.lookup(a[0], a[1], a[2] == 1), IAS, UP_NODE, PLACE, FLAG),
        new Row("latest", (x, a) -> x.latest(a[0]), W, what(8)).asksOnly(),
        new Row("step", (x, a) -> x.step(a[0], a[1]), W, ANY, what(3)).asksOnly(),
        new Row("why", (x, a) -> x.why(a[0]), NOTHING, ANY).asksOnly(),
        new Row("owner", (x, a) -> x.owner(a[0]), A, PLACE).asksOnly(),
        new Row("node", (x, a) -> x.node(a[0], a[1]), IW, NODE, what(11)).asksOnly(),
        new Row("link", (x, a) -> x.link(a[0], a[1], a[2] == 1), I, NODE, ANY, FLAG).asksOnly(),
        new Row("letter", (x, a) -> x.letter(a[0], a[1]), A, PLACE, ANY).asksOnly(),
        new Row("overlap", (x, a) -> x.overlap(a[0], a[1]), A, PLACE, PLACE).asksOnly(),
        new Row("shifted", (x, a) -> x.shifted(a[0], a[1], a[2]), A, PLACE, PLACE, ANY).asksOnly(),
        new Row("start", (x, a) -> x.start(a[0], a[1]), IAS, UP_NODE, PLACE).asksOnly(),
        new Row("nearest", (x, a) -> x.nearest(a[0]), A, PLACE).asksOnly(),
        new Row("far", (x, a) -> x.far(a[0], a[1]), IS, UP_NODE, UP_NODE).asksOnly(),
        new Row("apart", (x, a) -> x.apart(a[0], a[1]), IAS, UP_NODE, UP_NODE).asksOnly().wantsTwo(),
        new Row("sample", (x, a) -> x.sample(a[0] == 1, a[1]), W, FLAG, what(7)).asksOnly(),
        new Row("cost", (x, a) -> x.cost(a[0], a[1]), A, BASE, DEGREE).asksOnly(),
        new Row("choice", (x, a) -> x.choice(a[0]), A, LINKS).asksOnly(),
        new Row("takes", (x, a) -> x.takes(a[0], a[1]), IAS, UP_NODE, PLACE).asksOnly(),
        new Row("worst", (x, a) -> x.worst(a[0]), IS, UP_NODE).asksOnly(),
        new Row("traffic", (x, a) -> x.traffic(a[0]), IS, UP_NODE).asksOnly(),
        new Row("detour", (x, a) -> x.detour(a[0]), A, PLACE).asksOnly(),
        new Row("quickest", (x, a) -> x.quickest(a[0]), A, PLACE).asksOnly(),
        new Row("better", (x, a) -> x.better(a[0]), I, NODE).asksOnly(),
        new Row("host", (x, a) -> x.host(a[0]), A, PLACE).asksOnly(),
        new Row("ideal", (x, a) -> x.ideal(a[0], a[1]), IAS, UP_NODE, PLACE).asksOnly(),
        new Row("enough", (x, a) -> x.enough(a[0]), A, HOPS).asksOnly(),
        new Row("copies", (x, a) -> x.copies(a[0]), A, COPIES),
        new Row("put", (x, a) -> x.put(a[0], a[1], a[2]), IAS, UP_NODE, PLACE, VALUE),
        new Row("get", (x, a) -> x.get(a[0], a[1]), IAS, UP_NODE, PLACE),
        new Row("settle", (x, a) -> x.settle(a[0]), IS, UP_NODE),
        new Row("held", (x, a) -> x.held(a[0], a[1], a[2]), IWA, NODE, PLACE, what(1)).asksOnly(),
        new Row("about", (x, a) -> x.about(a[0], a[1]), WA, PLACE, what(3)).asksOnly(),
        new Row("count", (x, a) -> x.count(a[0]), NOTHING, what(16)).asksOnly()};

    /** Every combination: the digits of a number pick one choice for each argument. */
    private static void tryAll(Row row, Check.Maker maker) {
        int many = 1;
        for (Choice[] argument : row.arguments) {
            many *= argument.length;
        }
        for (int k = 0; k < many; k++) {
            List<Class<?>> refusals = new ArrayList<>();
            int[] numbers = new int[row.arguments.length];
            int rest = k;
            for (int j = 0; j < numbers.length; j++) {
                Choice choice = row.arguments[j][rest % row.arguments[j].length];
                rest /= row.arguments[j].length;
                numbers[j] = choice.number;
                refusals.add(choice.refusal);
            }
            if (row.wantsTwo && numbers[0] == numbers[1]) {
                refusals.add(ARGUMENT);
            }
            tryOne(row, maker, numbers, refusals);
        }
    }

    private static void tryOne(Row row, Check.Maker maker, int[] numbers, List<Class<?>> refusals) {
        Check.sentence(row.name + Arrays.toString(numbers), () -> {
            for (Class<?> first : row.told) {
                if (refusals.contains(first)) {
                    Check.refused(first, maker, x -> row.face.call(x, numbers));
                    return;
                }
            }
            if (row.asksOnly) {
                Check.changesNothing(maker, x -> row.face.call(x, numbers));
            } else {
                Check.answered(() -> row.face.call(maker.make(), numbers));
            }
        });
    }

    private static Row named(String name) {
        for (Row row : ROWS) {
            if (row.name.equals(name)) {
                return row;
            }
        }
        throw new IllegalArgumentException(name);
    }

    /** The same calls where nobody ever joined: each node's number is none, each key is one. */
    private static void withoutNodes() {
        Choice[] none = choices(INDEX, new int[0], 0, -1, 1, 23, 24, MIN, MAX);
        Choice[] free = choices(ARGUMENT, new int[] {0, 4095}, -1, 4096, MIN, MAX);
        for (Row row : ROWS) {
            Choice[][] arguments = row.arguments.clone();
            for (int k = 0; k < arguments.length; k++) {
                boolean isNode = arguments[k] == NODE || arguments[k] == UP_NODE || arguments[k] == DOWN_NODE;
                arguments[k] = isNode ? none : arguments[k] == FREE_PLACE ? free : arguments[k];
            }
            Row empty = new Row(row.name, row.face, row.told, arguments);
            empty.asksOnly = row.asksOnly;
            tryAll(empty, ShiftRing::new);
        }
    }

    /** 24 nodes: no place is free, though one of them is down. */
    private static void withAllNodes() {
        Choice[] place = or(PLACE, STATE, 5, 77, 1530, 2000);
        place[0] = new Choice(0, STATE);
        place[1] = new Choice(4095, STATE);
        Row join = new Row("join (24 nodes) ", (x, a) -> x.join(a[0]), AS, place);
        tryAll(join, Rings::full);
        tryAll(join, () -> {
            ShiftRing x = Rings.full();
            x.down(3);
            return x;
        });
        tryAll(new Row("down (24 nodes) ", (x, a) -> x.down(a[0]), IS, from(0, 23, INDEX)), Rings::full);
        tryAll(new Row("up (24 nodes) ", (x, a) -> x.up(a[0]), IS,
                or(choices(INDEX, new int[0], -1, 24, MIN, MAX), STATE, 0, 23)), Rings::full);
        tryAll(new Row("mend (24 nodes) ", (x, a) -> x.mend(a[0]), IS, from(0, 23, INDEX)), Rings::full);
        tryAll(new Row("node (24 nodes) ", (x, a) -> x.node(a[0], a[1]), IW, from(0, 23, INDEX), what(11)), Rings::full);
    }

    /** 32 keys are known: those may be put again, others may not. */
    private static void withAllKeys() {
        Choice[] key = or(choices(ARGUMENT, new int[] {0, 3100}, -1, 4096, MIN, MAX), STATE, 1, 3101, 4095);
        Choice[] node = choices(INDEX, new int[] {0, 3}, -1, 4, MIN, MAX);
        tryAll(new Row("put (32 keys) ", (x, a) -> x.put(a[0], a[1], a[2]), IAS, node, key, VALUE), Rings::crammed);
        Check.Maker oneDown = () -> {
            ShiftRing x = Rings.crammed();
            x.down(1);
            return x;
        };
        Choice[] other = or(choices(INDEX, new int[] {0}, -1, 4), STATE, 1);
        tryAll(new Row("put (32 keys, a node down) ", (x, a) -> x.put(a[0], a[1], a[2]), IAS, other, key, VALUE), oneDown);
    }

    /** All successors of the only node that is up are down. */
    private static void withoutSuccessors() {
        Choice[] node = or(choices(INDEX, new int[0], -1, 4, MIN, MAX), STATE, 0, 1);
        tryAll(new Row("start (cut) ", (x, a) -> x.start(a[0], a[1]), IAS, node, PLACE), Rings::cut);
        tryAll(new Row("ideal (cut) ", (x, a) -> x.ideal(a[0], a[1]), IAS, node, PLACE), Rings::cut);
        Choice[] up = or(choices(INDEX, new int[] {0}, -1, 4, MIN, MAX), STATE, 1);
        for (String name : new String[] {"lookup", "takes", "worst", "traffic", "mend", "settle"}) {
            Row row = named(name);
            Choice[][] arguments = row.arguments.clone();
            arguments[0] = up;
            tryAll(new Row(name + " (cut) ", row.face, row.told, arguments), Rings::cut);
        }
    }

    public static void main(String[] args) {
        for (Row row : ROWS) {
            tryAll(row, Rings::used);
        }
        withoutNodes();
        withAllNodes();
        withAllKeys();
        withoutSuccessors();
        Check.end();
    }
}
