import java.util.List;

/** Each promise by itself, with answers reckoned apart from the program. */
public final class PromisesTest {
    // Rows of kind, value and reference, by the document's tape.
    private static final int[][] SEED_0_SIZE_12 = {
        {0, 7, -1}, {1, 24, 0}, {2, 36, -1}, {6, 91, -1}, {4, 75, 2},
        {2, 3, -1}, {5, 82, 4}, {3, 22, 0}, {6, 31, 6}, {5, 69, 4},
        {3, 13, 0}, {1, 51, 0}, {1, 17, 0}, {5, 84, 4}, {1, 74, 0}};
    private static final int[][] SEED_MINUS_1_SIZE_12 = {
        {0, 88, -1}, {1, 43, 0}, {2, 2, -1}, {2, 87, -1}, {6, 47, -1},
        {6, 32, -1}, {2, 62, -1}, {1, 38, 0}, {5, 1, 1}, {0, 2, -1},
        {0, 80, -1}, {5, 15, 7}, {3, 25, 10}, {2, 15, -1}, {6, 62, 8}};
    // Here acts refer to ships, and rows to acts and to declarations.
    private static final int[][] SEED_2024_SIZE_12 = {
        {0, 2, -1}, {1, 26, 0}, {2, 95, -1}, {3, 12, 0}, {5, 21, 3},
        {5, 1, 1}, {4, 39, 2}, {6, 45, 4}, {2, 27, -1}, {6, 10, 6},
        {6, 86, 6}, {1, 15, 0}, {2, 33, -1}, {5, 0, 3}, {3, 51, 0}};
    private static final int[][] LOWEST_SEED_SIZE_5 = {
        {0, 31, -1}, {1, 48, 0}, {2, 60, -1}, {0, 67, -1},
        {5, 99, 1}, {3, 79, 0}, {6, 69, 4}, {1, 21, 0}};
    private static final int[][] HIGHEST_SEED_SIZE_5 = {
        {0, 64, -1}, {1, 19, 0}, {2, 26, -1}, {1, 63, 0},
        {0, 64, -1}, {6, 59, -1}, {3, 84, 0}, {2, 56, -1}};
    // This one has the values 49 and 50, and acts that fit and do not.
    private static final int[][] SEED_516_SIZE_8 = {
        {0, 54, -1}, {1, 10, 0}, {2, 50, -1}, {0, 60, -1}, {6, 21, -1}, {5, 40, 1},
        {0, 1, -1}, {5, 59, 1}, {6, 67, 7}, {3, 27, 6}, {4, 49, 2}};

    public static void main(String[] args) {
        promise1NewObject();
        promise2Draw();
        promise3Part();
        promise4Fits();
        promise5Verdict();
        promise6Now();
        promise7Shorter();
        promise7NothingLeft();
        promise8Left();
        promise9Minimal();
        promise10Without();
        promise11Same();
        promise12Count();
        Check.end();
    }

    private static void promise1NewObject() {
        PortDrawer x = new PortDrawer(77L);
        Check.due("new: NONE", -1, () -> PortDrawer.NONE);
        for (int what = 0; what <= 4; what++) {
            int w = what;
            Check.due("new: count(" + what + ")", 0, () -> x.count(w));
        }
        for (int what = 10; what <= 16; what++) {
            int w = what;
            Check.due("new: count(" + what + ")", 0, () -> x.count(w));
        }
        Check.dueOutOfBounds("new: part(0, 0)", () -> x.part(0, 0));
        Check.dueIllegal("new: fits(0)", () -> x.fits(0));
        Check.dueIllegal("new: without(0)", () -> x.without(0));
        Check.due("new: now()", 0, x::now);
        Check.due("new: left(0)", -1, () -> x.left(0));
        Check.due("new: minimal()", false, x::minimal);
        Check.due("new: shorter()", 0, x::shorter);
        Check.due("new: same(77, 0)", false, () -> x.same(77L, 0));
        Check.due("new: verdict(0, true)", true, () -> x.verdict(0, true));
        Check.due("new, 0 stays: minimal()", false, x::minimal);
        Check.due("new, 0 stays: shorter()", 0, x::shorter);
    }

    private static void promise2Draw() {
        Check.dueHarbour("seed 0", SEED_0_SIZE_12, Check.drawn(0L, 12));
        Check.dueHarbour("seed -1", SEED_MINUS_1_SIZE_12, Check.drawn(-1L, 12));
        Check.dueHarbour("seed 2024", SEED_2024_SIZE_12, Check.drawn(2024L, 12));
        Check.dueHarbour("lowest seed", LOWEST_SEED_SIZE_5, Check.drawn(Long.MIN_VALUE, 5));
        Check.dueHarbour("highest seed", HIGHEST_SEED_SIZE_5, Check.drawn(Long.MAX_VALUE, 5));
        Check.dueHarbour("seed 516", SEED_516_SIZE_8, Check.drawn(516L, 8));
        for (int size = 0; size <= 40; size++) {
            int s = size;
            PortDrawer x = new PortDrawer(5L);
            Check.due("draw(" + size + ")", size + 3, () -> x.draw(s));
        }
        PortDrawer x = Check.drawn(0L, 12);
        x.verdict(242, true);
        x.without(0);
        for (int size : new int[] {-1, 41, Integer.MIN_VALUE, Integer.MAX_VALUE}) {
            Check.dueIllegal("draw(" + size + ")", () -> x.draw(size));
        }
        Check.due("refused: count(0)", 15, () -> x.count(0));
        Check.due("refused: count(1)", 8, () -> x.count(1));
        Check.due("drawn anew", 15, () -> x.draw(12));
        Check.dueHarbour("drawn anew", SEED_0_SIZE_12, x);
        Check.due("drawn anew: verdicts", 1, () -> x.count(4));
        Check.due("drawn smaller", 3, () -> x.draw(0));
        Check.dueOutOfBounds("drawn smaller: part(3, 0)", () -> x.part(3, 0));
        Check.due("drawn smaller: now()", 0, x::now);
        Check.due("drawn smaller: count(3)", 0, () -> x.count(3));
        Check.due("drawn smaller: without(2)", 1, () -> x.without(2));
    }

    private static void promise3Part() {
        PortDrawer x = Check.drawn(0L, 12);
        int[] whichOfKind = {0, 0, 0, 0, 0, 1, 0, 0, 1, 1, 1, 1, 2, 2, 3};
        for (int i = 0; i < whichOfKind.length; i++) {
            int at = i;
            Check.due("part(" + i + ", 1)", whichOfKind[i], () -> x.part(at, 1));
        }
        x.without(6);
        Check.due("out: part(6, 4)", 0, () -> x.part(6, 4));
        Check.due("out with it: part(8, 4)", 0, () -> x.part(8, 4));
        Check.due("stays: part(4, 4)", 1, () -> x.part(4, 4));
        Check.due("out: part(6, 0)", 5, () -> x.part(6, 0));
        Check.due("out: part(8, 3)", 6, () -> x.part(8, 3));
        Check.due("others out: part(9, 1)", 1, () -> x.part(9, 1));
        for (int i : new int[] {-1, 15, 43, 64, Integer.MIN_VALUE, Integer.MAX_VALUE}) {
            Check.dueOutOfBounds("part(" + i + ", 0)", () -> x.part(i, 0));
            Check.dueOutOfBounds("part(" + i + ", 9)", () -> x.part(i, 9));
        }
        for (int what : new int[] {-1, 5, Integer.MIN_VALUE, Integer.MAX_VALUE}) {
            Check.dueOutOfBounds("part(0, " + what + ")", () -> x.part(0, what));
        }
    }

    private static void promise4Fits() {
        PortDrawer x = Check.drawn(0L, 12);
        Check.due("even to odd: fits(6)", false, () -> x.fits(6));
        Check.due("odd to odd: fits(9)", true, () -> x.fits(9));
        Check.due("even to odd: fits(13)", false, () -> x.fits(13));
        PortDrawer y = Check.drawn(516L, 8);
        Check.due("even to even: fits(5)", true, () -> y.fits(5));
        Check.due("odd to even: fits(7)", false, () -> y.fits(7));
        x.without(4);
        Check.due("left out: fits(9)", true, () -> x.fits(9));
        Check.due("left out: fits(6)", false, () -> x.fits(6));
        for (int i : new int[] {0, 1, 2, 3, 4, 5, 7, 8, 10, 11, 12, 14}) {
            Check.dueIllegal("no act: fits(" + i + ")", () -> x.fits(i));
        }
        for (int i : new int[] {-1, 15, 43, Integer.MIN_VALUE, Integer.MAX_VALUE}) {
            Check.dueIllegal("no part: fits(" + i + ")", () -> x.fits(i));
        }
    }

    private static void promise5Verdict() {
        // Each of its own object: one object answers for 512 calls alone.
        for (int bits = 0; bits < 256; bits++) {
            int b = bits;
            PortDrawer y = new PortDrawer(0L);
            Check.due("at first: verdict(" + b + ", false)", false, () -> y.verdict(b, false));
            Check.due("told: verdict(" + b + ", true)", true, () -> y.verdict(b, true));
            Check.due("again: verdict(" + b + ", true)", false, () -> y.verdict(b, true));
            Check.due("one told: count(4)", 1, () -> y.count(4));
        }
        PortDrawer x = new PortDrawer(0L);
        for (int bits = 0; bits < 256; bits++) {
            int b = bits;
            Check.due("one more: verdict(" + b + ", true)", true, () -> x.verdict(b, true));
        }
        Check.due("all told: count(4)", 256, () -> x.count(4));
        Check.due("taken back: verdict(255, false)", true, () -> x.verdict(255, false));
        Check.due("again: verdict(255, false)", false, () -> x.verdict(255, false));
        Check.due("one taken back: count(4)", 255, () -> x.count(4));
    }

    private static void promise6Now() {
        Check.due("seed 0: now()", 242, () -> Check.drawn(0L, 12).now());
        Check.due("seed -1: now()", 197, () -> Check.drawn(-1L, 12).now());
        Check.due("lowest seed: now()", 109, () -> Check.drawn(Long.MIN_VALUE, 5).now());
        Check.due("highest seed: now()", 79, () -> Check.drawn(Long.MAX_VALUE, 5).now());
        PortDrawer x = Check.drawn(516L, 8);
        // Value 50 sets the goods' bit, value 49 does not set the declarations'.
        Check.due("seed 516: now()", 229, x::now);
        x.without(5);
        Check.due("without the act that fits: now()", 101, x::now);
        x.without(2);
        Check.due("without the good: now()", 97, x::now);
        x.without(0);
        Check.due("without the first berth: now()", 1, x::now);
        x.without(3);
        Check.due("without the high berth: now()", 0, x::now);
        x.without(4);
        x.without(6);
        Check.due("nothing is left", 0, () -> x.count(1));
        Check.due("of nothing: now()", 0, x::now);
    }

    private static void promise7Shorter() {
        PortDrawer x = Check.drawn(0L, 6);
        x.without(7);
        Check.due("does not stay: shorter()", 9, x::shorter);
        Check.due("does not stay: all is left", 9, () -> x.count(1));
        x.verdict(112, true);
        x.verdict(80, true);
        x.verdict(16, true);
        // Part 3 may go only once part 6 is out: a second pass from part 0 finds it.
        Check.due("from part 0 anew: shorter()", 2, x::shorter);
        Check.due("from part 0 anew", List.of(2, 4), () -> Check.leftOf(x));
        Check.due("again: shorter()", 2, x::shorter);
        Check.due("again", List.of(2, 4), () -> Check.leftOf(x));
        x.verdict(16, false);
        Check.due("stays no more: shorter()", 9, x::shorter);
        PortDrawer y = Check.drawn(1L, 6);
        y.verdict(191, true);
        y.verdict(171, true);
        y.verdict(2, true);
        Check.due("seed 1: shorter()", 2, y::shorter);
        Check.due("seed 1", List.of(5, 8), () -> Check.leftOf(y));
        Check.due("seed 1: now()", 2, y::now);
        PortDrawer z = Check.drawn(0L, 0);
        z.verdict(0, true);
        Check.due("something is left: shorter()", 1, z::shorter);
        Check.due("something is left", List.of(2), () -> Check.leftOf(z));
        PortDrawer w = Check.drawn(0L, 0);
        w.verdict(0, true);
        w.without(2);
        Check.due("what was left out stays out: shorter()", 1, w::shorter);
        Check.due("what was left out stays out", List.of(0), () -> Check.leftOf(w));
    }

    private static void promise7NothingLeft() {
        PortDrawer x = Check.drawn(0L, 0);
        x.without(0);
        x.without(2);
        x.verdict(0, true);
        Check.due("nothing left, 0 stays: shorter()", 0, x::shorter);
        Check.due("nothing left, 0 stays: minimal()", false, x::minimal);
        x.verdict(0, false);
        Check.due("nothing left, 0 does not stay: shorter()", 3, x::shorter);
    }

    private static void promise8Left() {
        PortDrawer x = Check.drawn(0L, 12);
        Check.due("all", List.of(0, 1, 2, 3, 4, 5, 6, 7, 8, 9, 10, 11, 12, 13, 14),
                () -> Check.leftOf(x));
        x.without(0);
        Check.due("some", List.of(2, 3, 4, 5, 6, 8, 9, 13), () -> Check.leftOf(x));
        for (int i : new int[] {-1, 8, 15, 43, Integer.MIN_VALUE, Integer.MAX_VALUE}) {
            Check.due("left(" + i + ")", -1, () -> x.left(i));
        }
    }

    private static void promise9Minimal() {
        PortDrawer x = Check.drawn(0L, 6);
        Check.due("does not stay: minimal()", false, x::minimal);
        x.verdict(112, true);
        Check.due("part 0 may go: minimal()", false, x::minimal);
        x.without(0);
        Check.due("part 5 may go: minimal()", false, x::minimal);
        x.without(5);
        // Row 8 is low and refers to the act: it may go alone.
        Check.due("part 8 may go: minimal()", false, x::minimal);
        x.without(8);
        Check.due("none may go: minimal()", true, x::minimal);
        Check.due("asking leaves out nothing", List.of(2, 3, 4, 6), () -> Check.leftOf(x));
        x.verdict(48, true);
        Check.due("now part 3 may go: minimal()", false, x::minimal);
        x.verdict(48, false);
        x.verdict(112, false);
        Check.due("stays no more: minimal()", false, x::minimal);
        PortDrawer y = Check.drawn(0L, 0);
        y.verdict(0, true);
        y.without(0);
        Check.due("the only part: minimal()", true, y::minimal);
        y.without(2);
        Check.due("nothing: minimal()", false, y::minimal);
    }

    private static void promise10Without() {
        PortDrawer x = Check.drawn(0L, 12);
        Check.due("without(8)", 1, () -> x.without(8));
        Check.due("one that refers is out already: without(6)", 1, () -> x.without(6));
        Check.due("all that refers, and what refers to that: without(2)", 4, () -> x.without(2));
        Check.due("left", List.of(0, 1, 3, 5, 7, 10, 11, 12, 14), () -> Check.leftOf(x));
        for (int i : new int[] {2, 4, 6, 8, 9, 13}) {
            Check.dueIllegal("left out: without(" + i + ")", () -> x.without(i));
        }
        for (int i : new int[] {-1, 15, 43, 64, 65, Integer.MIN_VALUE, Integer.MAX_VALUE}) {
            Check.dueIllegal("no part: without(" + i + ")", () -> x.without(i));
        }
        Check.due("refused: count(1)", 9, () -> x.count(1));
        PortDrawer y = Check.drawn(2024L, 12);
        Check.due("three deep: without(0)", 9, () -> y.without(0));
        Check.due("three deep", List.of(2, 6, 8, 9, 10, 12), () -> Check.leftOf(y));
        PortDrawer z = Check.drawn(0L, 40);
        Check.due("the last of the most: without(42)", 1, () -> z.without(42));
        Check.due("the last of the most: part(42, 4)", 0, () -> z.part(42, 4));
    }

    private static void promise11Same() {
        PortDrawer x = Check.drawn(0L, 12);
        Check.due("itself", true, () -> x.same(0L, 12));
        Check.due("smaller", false, () -> x.same(0L, 11));
        Check.due("larger", false, () -> x.same(0L, 13));
        Check.due("other seed", false, () -> x.same(1L, 12));
        x.without(0);
        Check.due("parts are out", true, () -> x.same(0L, 12));
        Check.due("asking draws nothing here", 8, () -> x.count(1));
        for (int size : new int[] {-1, 41, Integer.MIN_VALUE, Integer.MAX_VALUE}) {
            Check.dueIllegal("same(0, " + size + ")", () -> x.same(0L, size));
        }
        Check.due("twin seeds of size 0", true, () -> Check.drawn(64L, 0).same(16091L, 0));
        Check.due("no twins of size 1", false, () -> Check.drawn(64L, 1).same(16091L, 1));
        Check.due("twin seeds of size 1", true, () -> Check.drawn(12005L, 1).same(97229L, 1));
        Check.due("value 0 differs", false, () -> Check.drawn(7L, 0).same(9382L, 0));
        Check.due("value 1 differs", false, () -> Check.drawn(7L, 0).same(2213L, 0));
        Check.due("value 2 differs", false, () -> Check.drawn(7L, 0).same(4142L, 0));
        Check.due("a kind alone differs", false, () -> Check.drawn(41318L, 1).same(126542L, 1));
        Check.due("a reference alone differs", false,
                () -> Check.drawn(26931913L, 2).same(27017137L, 2));
        Check.due("nothing drawn", false, () -> new PortDrawer(0L).same(0L, 0));
        Check.due("the most", true, () -> Check.drawn(3L, 40).same(3L, 40));
    }

    private static void promise12Count() {
        PortDrawer x = Check.drawn(0L, 12);
        x.verdict(9, true);
        x.verdict(200, true);
        x.without(4);
        int[] due = {15, 10, 3, 1, 2};
        for (int what = 0; what < due.length; what++) {
            int w = what;
            Check.due("count(" + what + ")", due[what], () -> x.count(w));
        }
        int[] kinds = {1, 4, 2, 2, 1, 3, 2};
        for (int kind = 0; kind < kinds.length; kind++) {
            int w = kind + 10;
            Check.due("count(" + w + ")", kinds[kind], () -> x.count(w));
        }
        for (int what : new int[] {-1, 5, 6, 7, 8, 9, 17, 18, Integer.MIN_VALUE,
                Integer.MIN_VALUE + 9, Integer.MIN_VALUE + 10, Integer.MAX_VALUE}) {
            Check.due("count(" + what + ")", -1, () -> x.count(what));
        }
    }
}
