import java.util.ArrayList;
import java.util.List;

/** Compares answers with those that are due, prints the wrong ones, and ends a test. */
final class Check {
    interface Call {
        Object answer();
    }

    private static int wrong = 0;

    private Check() {
    }

    /** What a call answers, or "throws." and the exception's name: so the two are compared alike. */
    static Object answerOf(Call call) {
        try {
            return call.answer();
        } catch (RuntimeException e) {
            return "throws." + e.getClass().getSimpleName();
        }
    }

    static void due(String what, Object want, Call call) {
        Object got = answerOf(call);
        if (!want.equals(got)) {
            wrong++;
            System.out.println(what + " answered " + got + ", due is " + want);
        }
    }

    static void dueIllegal(String what, Call call) {
        due(what, "throws.IllegalArgumentException", call);
    }

    static void dueOutOfBounds(String what, Call call) {
        due(what, "throws.IndexOutOfBoundsException", call);
    }

    static List<Integer> leftOf(PortDrawer x) {
        List<Integer> parts = new ArrayList<>();
        for (int i = 0; x.left(i) != PortDrawer.NONE && i < 100; i++) {
            parts.add(x.left(i));
        }
        return parts;
    }

    static int wrongSoFar() {
        return wrong;
    }

    static void end() {
        if (wrong != 0) {
            System.out.println(wrong + " answers are not as due");
            System.exit(1);
        }
    }
}
