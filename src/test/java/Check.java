import java.util.NoSuchElementException;
import java.util.function.IntUnaryOperator;

/** Single checks, counted, and told by the sentence of the document that they are for. */
final class Check {
    static final Class<?> INDEX = IndexOutOfBoundsException.class;
    static final Class<?> ARGUMENT = IllegalArgumentException.class;
    static final Class<?> STATE = IllegalStateException.class;
    static final Class<?> WHAT = NoSuchElementException.class;

    interface Call {
        int answer();
    }

    interface Maker {
        ShiftRing make();
    }

    interface Asked {
        int of(ShiftRing x);
    }

    private static String sentence = "";
    private static int sentences;
    private static int checks;
    private static int wrong;

    private Check() {
    }

    /** Runs the test of one sentence; what it throws itself is a failure of it. */
    static void sentence(String words, Runnable test) {
        sentence = words;
        sentences++;
        try {
            test.run();
        } catch (RuntimeException e) {
            fail("the test threw " + e);
        }
    }

    private static String told(Call call) {
        try {
            return Integer.toString(call.answer());
        } catch (RuntimeException e) {
            return e.getClass().getName();
        }
    }

    private static void same(String want, String got, String behind) {
        checks++;
        if (!want.equals(got)) {
            fail(got + ", due is " + want + behind);
        }
    }

    private static void fail(String what) {
        wrong++;
        System.out.println("'" + sentence + "', line " + lineOfTest() + ": " + what);
    }

    /** The line in the test itself, not in what the test calls. */
    private static int lineOfTest() {
        int line = 0;
        for (StackTraceElement at : Thread.currentThread().getStackTrace()) {
            if (at.getClassName().endsWith("Test")) {
                line = at.getLineNumber();
            } else if (at.getMethodName().equals("sentence")) {
                return line;
            }
        }
        return line;
    }

    static void due(int want, Call call) {
        same(Integer.toString(want), told(call), "");
    }

    /** The answers to 0, 1, 2 .. in turn. */
    static void dues(IntUnaryOperator asked, int... wants) {
        for (int k = 0; k < wants.length; k++) {
            int at = k;
            same(Integer.toString(wants[k]), told(() -> asked.applyAsInt(at)), " (of " + k + ")");
        }
    }

    static void refused(Class<?> want, Call call) {
        same(want.getName(), told(call), "");
    }

    /** Refused, and all is then as it is where the call was never made. */
    static void refused(Class<?> want, Maker maker, Asked call) {
        for (int part = 0; part < State.PARTS; part++) {
            ShiftRing x = maker.make();
            same(want.getName(), told(() -> call.of(x)), "");
            sameState(part, maker.make(), x);
        }
    }

    /** Answered, and all is then as it is where the call was never made. */
    static void changesNothing(Maker maker, Asked call) {
        for (int part = 0; part < State.PARTS; part++) {
            ShiftRing x = maker.make();
            answered(() -> call.of(x));
            sameState(part, maker.make(), x);
        }
    }

    static void answered(Call call) {
        checks++;
        String got = told(call);
        if (!got.matches("-?\\d+")) {
            fail(got + ", due is an answer");
        }
    }

    static void sameState(int part, ShiftRing want, ShiftRing got) {
        same(State.part(want, part).toString(), State.part(got, part).toString(), " (part " + part + " of the state)");
    }

    static void end() {
        System.out.println(sentences + " sentences, " + checks + " checks, " + wrong + " not as due");
        if (wrong != 0) {
            System.exit(1);
        }
    }
}
