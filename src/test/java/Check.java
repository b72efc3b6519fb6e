import java.util.ArrayList;
import java.util.List;
import java.util.function.Function;
import java.util.function.Supplier;

/** Compares answers with those that are due, prints the wrong ones, and ends a test. */
final class Check {
    interface Call {
        Object answer();
    }

    private static int wrong = 0;

    private Check() {
    }

    static PortDrawer drawn(long seed, int size) {
        PortDrawer x = new PortDrawer(seed);
        x.draw(size);
        return x;
    }

    /** What a call answers, or "throws." and the exception's name: so the two are compared alike. */
    static Object answerOf(Call call) {
        try {
            return call.answer();
        } catch (RuntimeException e) {
            return "throws." + e.getClass().getSimpleName();
        }
    }

    static void due(String what, Object want, Call call) {
        Object got = answerOf(call);
        if (!want.equals(got)) {
            wrong++;
            System.out.println(what + " answered " + got + ", due is " + want);
        }
    }

    static void dueIllegal(String what, Call call) {
        due(what, "throws.IllegalArgumentException", call);
    }

    static void dueOutOfBounds(String what, Call call) {
        due(what, "throws.IndexOutOfBoundsException", call);
    }

    static void dueLeft(String what, List<Integer> parts, PortDrawer x) {
        due(what + ": what is left", parts, () -> leftOf(x));
    }

    /** Rows of kind, value and reference, and all is left. */
    static void dueHarbour(String name, int[][] rows, PortDrawer x) {
        due(name + ": count(0)", rows.length, () -> x.count(0));
        for (int i = 0; i < rows.length; i++) {
            int at = i;
            due(name + ": kind of " + i, rows[i][0], () -> x.part(at, 0));
            due(name + ": value of " + i, rows[i][1], () -> x.part(at, 2));
            due(name + ": reference of " + i, rows[i][2], () -> x.part(at, 3));
            due(name + ": left of " + i, 1, () -> x.part(at, 4));
        }
    }

    /** The call answers as is due, and the object is then like a twin that was not called. */
    static void dueUntouched(String what, Object want, Supplier<PortDrawer> maker,
            Function<PortDrawer, Object> call) {
        PortDrawer x = maker.get();
        due(what, want, () -> call.apply(x));
        due(what + ": and nothing is changed", stateOf(maker.get()), () -> stateOf(x));
    }

    static List<Integer> leftOf(PortDrawer x) {
        List<Integer> parts = new ArrayList<>();
        for (int i = 0; i < 50; i++) {
            int part = x.left(i);
            if (part == PortDrawer.NONE) {
                break;
            }
            parts.add(part);
        }
        return parts;
    }

    /**
     * All that can be asked of an object. It takes every verdict back, for only so can each be asked:
     * the object is of no use afterwards. Of up to 15 parts it needs fewer than the 512 calls.
     */
    private static List<Object> stateOf(PortDrawer x) {
        List<Object> state = new ArrayList<>();
        for (int what = 0; what <= 16; what++) {
            state.add(x.count(what));
        }
        for (int i = 0; i < x.count(0); i++) {
            for (int what = 0; what <= 4; what++) {
                state.add(x.part(i, what));
            }
        }
        state.add(x.now());
        state.add(leftOf(x));
        state.add(x.minimal());
        for (int bits = 0; bits < 256; bits++) {
            state.add(x.verdict(bits, false));
        }
        return state;
    }

    static int wrongSoFar() {
        return wrong;
    }

    static void end() {
        if (wrong != 0) {
            System.out.println(wrong + " answers are not as due");
            System.exit(1);
        }
    }
}
