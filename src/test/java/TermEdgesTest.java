import java.util.List;

/**
 * Each sentence under "Terms" that names a boundary case, by itself, on both sides of the boundary.
 * The harbours were reckoned apart from the program; a row tells kind, value, reference.
 */
public final class TermEdgesTest {
    private static final int NONE = -1;

    public static void main(String[] args) {
        tapeWrapsAround();
        tapeNumberIsTheHighest31Bits();
        kindIsANumberBelow7();
        sizeIs0To40();
        valueIsANumberBelow100();
        referenceByNumberFromTheFirst();
        onlyPartsAheadAreReferredTo();
        withoutAnyPartToReferToNothingIsDrawn();
        berthsAndGoodsDrawNothingMore();
        actFitsByEvenAndOdd();
        atFirstAllIsLeft();
        leftOutWithAllThatRefers();
        verdictBitFrom50On();
        verdictBitOfPartsThatAreLeft();
        verdictBit7OfActsThatFit();
        atFirstNoVerdictStays();
        shorterWhereTheVerdictDoesNotStay();
        shorterLeavesSomething();
        shorterTakesTheFirstByNumber();
        shorterGoesFromPart0Anew();
        minimalNeedsAVerdictThatStays();
        minimalHasNoPartThatMayGo();
        drawnAnewAllIsLeft();
        drawnAnewVerdictsStay();
        usedForAtMost512Calls();
        Check.end();
    }

    /** "x becomes x * .. + .. (longs that wrap around)": seeds 1 and -1 do not wrap, 2 and -2 do. */
    private static void tapeWrapsAround() {
        Check.dueHarbour("does not wrap: seed 0",
                new int[][] {{0, 7, NONE}, {1, 24, 0}, {2, 36, NONE}}, Check.drawn(0L, 0));
        Check.dueHarbour("does not wrap: seed 1",
                new int[][] {{0, 74, NONE}, {1, 53, 0}, {2, 70, NONE}}, Check.drawn(1L, 0));
        Check.dueHarbour("wraps: seed 2",
                new int[][] {{0, 40, NONE}, {1, 82, 0}, {2, 4, NONE}}, Check.drawn(2L, 0));
        Check.dueHarbour("does not wrap: seed -1",
                new int[][] {{0, 88, NONE}, {1, 43, 0}, {2, 2, NONE}}, Check.drawn(-1L, 0));
        Check.dueHarbour("wraps: seed -2",
                new int[][] {{0, 22, NONE}, {1, 14, 0}, {2, 69, NONE}}, Check.drawn(-2L, 0));
        Check.dueHarbour("the highest seed",
                new int[][] {{0, 64, NONE}, {1, 19, 0}, {2, 26, NONE}}, Check.drawn(Long.MAX_VALUE, 0));
        Check.dueHarbour("the lowest seed",
                new int[][] {{0, 31, NONE}, {1, 48, 0}, {2, 60, NONE}}, Check.drawn(Long.MIN_VALUE, 0));
    }

    /** "the number is the highest 31 bits of x .., as a number 0 .. 2147483647, modulo n". */
    private static void tapeNumberIsTheHighest31Bits() {
        long one = 1L << 33;
        dueFirstValue("number 0, all lower bits 0", 0L, 0);
        dueFirstValue("number 0, all lower bits 1", one - 1, 0);
        dueFirstValue("number 1", one, 1);
        dueFirstValue("number 99", 100 * one - 1, 99);
        dueFirstValue("number 100", 100 * one, 0);
        dueFirstValue("number 1073741823, x the highest", Long.MAX_VALUE, 23);
        dueFirstValue("number 1073741824, x the lowest", Long.MIN_VALUE, 24);
        dueFirstValue("number 2147483646", -one - 1, 46);
        dueFirstValue("number 2147483647, all lower bits 0", -one, 47);
        dueFirstValue("number 2147483647, all lower bits 1", -1L, 47);
    }

    /** Runs the tape one number back from x, so that x is what the first value is read from. */
    private static void dueFirstValue(String what, long x, int value) {
        long factorsInverse = -4568919932995229531L;
        long seed = (x - 1442695040888963407L) * factorsInverse;
        Check.due(what, value, () -> Check.drawn(seed, 0).part(0, 2));
    }

    /** "its kind is the NUMBER below 7": the lowest and the highest kind. */
    private static void kindIsANumberBelow7() {
        Check.due("the lowest kind", 0, () -> Check.drawn(8L, 1).part(3, 0));
        Check.due("the highest kind", 6, () -> Check.drawn(0L, 1).part(3, 0));
    }

    /** "a SIZE (0 .. 40): parts 0, 1, 2 are a berth, a box, a good; then SIZE more". */
    private static void sizeIs0To40() {
        PortDrawer least = new PortDrawer(10L);
        Check.due("the least size", 3, () -> least.draw(0));
        Check.due("the least size: kind of 0", 0, () -> least.part(0, 0));
        Check.due("the least size: kind of 1", 1, () -> least.part(1, 0));
        Check.due("the least size: kind of 2", 2, () -> least.part(2, 0));
        PortDrawer most = new PortDrawer(10L);
        Check.due("the largest size", 43, () -> most.draw(40));
        Check.due("the largest size: kind of 42", 5, () -> most.part(42, 0));
        Check.due("the largest size: value of 42", 96, () -> most.part(42, 2));
        Check.due("the largest size: reference of 42", 41, () -> most.part(42, 3));
    }

    /** "its VALUE, the NUMBER below 100": the lowest and the highest value. */
    private static void valueIsANumberBelow100() {
        Check.due("the lowest value", 0, () -> Check.drawn(239L, 0).part(0, 2));
        Check.due("the highest value", 99, () -> Check.drawn(409L, 0).part(0, 2));
        Check.due("the lowest value of a fourth part", 0, () -> Check.drawn(8512L, 1).part(3, 2));
        Check.due("the highest value of a fourth part", 99, () -> Check.drawn(1765L, 1).part(3, 2));
    }

    /** "by their order, the one that the NUMBER below their number tells (0 the first)". */
    private static void referenceByNumberFromTheFirst() {
        Check.due("the only berth", 0, () -> Check.drawn(0L, 0).part(1, 3));
        Check.due("the first of two berths", 0, () -> Check.drawn(240L, 2).part(4, 3));
        Check.due("the last of two berths", 3, () -> Check.drawn(257L, 2).part(4, 3));
        Check.due("the first of declaration and act", 3, () -> Check.drawn(2036L, 3).part(5, 3));
        Check.due("the last of declaration and act", 4, () -> Check.drawn(2446L, 3).part(5, 3));
    }

    /** "of the parts ahead of it that it may refer to": a declaration behind a row does not count. */
    private static void onlyPartsAheadAreReferredTo() {
        Check.dueHarbour("a declaration right behind the row", new int[][] {
            {0, 7, NONE}, {1, 24, 0}, {2, 36, NONE}, {6, 91, NONE}, {4, 75, 2}}, Check.drawn(0L, 2));
        Check.dueHarbour("an act right behind the row", new int[][] {
            {0, 37, NONE}, {1, 71, 0}, {2, 79, NONE}, {6, 79, NONE}, {5, 17, 1}}, Check.drawn(342L, 2));
        Check.dueHarbour("a declaration right ahead of the row", new int[][] {
            {0, 41, NONE}, {1, 63, 0}, {2, 90, NONE}, {4, 98, 2}, {6, 2, 3}}, Check.drawn(449L, 2));
        Check.dueHarbour("an act right ahead of the row", new int[][] {
            {0, 80, NONE}, {1, 58, 0}, {2, 4, NONE}, {5, 74, 1}, {6, 91, 3}}, Check.drawn(85L, 2));
    }

    /** "without any it draws nothing and REFERS to none (NONE)": the part behind it tells which. */
    private static void withoutAnyPartToReferToNothingIsDrawn() {
        Check.dueHarbour("none to refer to: no number is drawn", new int[][] {
            {0, 49, NONE}, {1, 35, 0}, {2, 28, NONE}, {6, 16, NONE}, {3, 56, 0}}, Check.drawn(262L, 2));
        Check.dueHarbour("one to refer to: a number below 1 is drawn", new int[][] {
            {0, 41, NONE}, {1, 63, 0}, {2, 90, NONE}, {4, 98, 2}, {6, 2, 3}, {3, 58, 0}},
            Check.drawn(449L, 3));
        Check.dueHarbour("one to refer to, an act", new int[][] {
            {0, 80, NONE}, {1, 58, 0}, {2, 4, NONE}, {5, 74, 1}, {6, 91, 3}, {3, 18, 0}},
            Check.drawn(85L, 3));
    }

    /** "berths and goods refer to none and draw nothing more", where a box draws a number more. */
    private static void berthsAndGoodsDrawNothingMore() {
        Check.dueHarbour("behind a berth", new int[][] {
            {0, 67, NONE}, {1, 29, 0}, {2, 85, NONE}, {0, 31, NONE}, {3, 61, 0}}, Check.drawn(240L, 2));
        Check.dueHarbour("behind goods", new int[][] {
            {0, 88, NONE}, {1, 43, 0}, {2, 2, NONE}, {2, 87, NONE}, {6, 47, NONE}},
            Check.drawn(-1L, 2));
        Check.dueHarbour("behind a box", new int[][] {
            {0, 64, NONE}, {1, 19, 0}, {2, 26, NONE}, {1, 63, 0}, {0, 64, NONE}},
            Check.drawn(Long.MAX_VALUE, 2));
    }

    /** "FITS if it REFERS to a part whose VALUE is of the same kind (even or odd) as its own". */
    private static void actFitsByEvenAndOdd() {
        Check.due("even to even", true, () -> Check.drawn(18L, 1).fits(3));
        Check.due("even to odd", false, () -> Check.drawn(35L, 1).fits(3));
        Check.due("odd to even", false, () -> Check.drawn(64L, 1).fits(3));
        Check.due("odd to odd", true, () -> Check.drawn(1L, 1).fits(3));
        Check.due("value 0 to odd", false, () -> Check.drawn(986L, 1).fits(3));
        Check.due("odd to a ship's odd", true, () -> Check.drawn(61112L, 5).fits(4));
        Check.due("odd to a declaration's even", false, () -> Check.drawn(3085L, 3).fits(4));
    }

    /** "WHAT IS LEFT at first is all." */
    private static void atFirstAllIsLeft() {
        Check.dueLeft("the least size", List.of(0, 1, 2), Check.drawn(0L, 0));
        PortDrawer most = Check.drawn(10L, 40);
        Check.due("the largest size", 43, () -> most.count(1));
        Check.due("the largest size: the first", 1, () -> most.part(0, 4));
        Check.due("the largest size: the last", 1, () -> most.part(42, 4));
    }

    /** "LEFT OUT with all parts that refer to it, or to one of those, and so on". */
    private static void leftOutWithAllThatRefers() {
        // Row 5 refers to act 4, that to ship 3, that to berth 0, as boxes 1 and 7 do.
        dueWithout("nothing refers to it", 61112L, 5, 5, List.of(0, 1, 2, 3, 4, 6, 7));
        dueWithout("one refers to it", 61112L, 5, 4, List.of(0, 1, 2, 3, 6, 7));
        dueWithout("and one to that", 61112L, 5, 3, List.of(0, 1, 2, 6, 7));
        dueWithout("and so on", 61112L, 5, 0, List.of(2, 6));
        dueWithout("a berth that nothing refers to", 61112L, 5, 6, List.of(0, 1, 2, 3, 4, 5, 7));
        dueWithout("a good, its declaration, act and row", 3085L, 3, 2, List.of(0, 1));
    }

    private static void dueWithout(String what, long seed, int size, int i, List<Integer> left) {
        PortDrawer x = Check.drawn(seed, size);
        Check.due(what, size + 3 - left.size(), () -> x.without(i));
        Check.dueLeft(what, left, x);
    }

    /** "bit k is 1 if some part of kind k .. has a VALUE of 50 or more". */
    private static void verdictBitFrom50On() {
        // Of each kind a harbour where one part has 49 and one where it has 50, all others less.
        long[] seedsOf49 = {40L, 140L, 70L, 2417L, 6071L, 15156L, 296L};
        long[] seedsOf50 = {66L, 405L, 393L, 10237L, 3516L, 20024L, 10122L};
        for (int kind = 0; kind < 7; kind++) {
            int at = kind < 3 ? kind : 3;
            int size = kind < 3 ? 0 : 1;
            PortDrawer low = Check.drawn(seedsOf49[kind], size);
            PortDrawer high = Check.drawn(seedsOf50[kind], size);
            Check.due("kind " + kind + ": value", 49, () -> low.part(at, 2));
            Check.due("kind " + kind + ": value", 50, () -> high.part(at, 2));
            Check.due("kind " + kind + " of 49", 0, low::now);
            Check.due("kind " + kind + " of 50", 1 << kind, high::now);
        }
    }

    /** "some part of kind k that is left": one of two, the other, none. */
    private static void verdictBitOfPartsThatAreLeft() {
        PortDrawer x = Check.drawn(0L, 12);
        // Of the boxes 11 and 14 alone are high.
        Check.due("two high boxes", 242, x::now);
        x.without(11);
        Check.due("one high box", 242, x::now);
        x.without(14);
        Check.due("no high box", 240, x::now);
        Check.due("low boxes are left", 1, () -> x.part(12, 4));
        PortDrawer y = Check.drawn(0L, 12);
        y.without(14);
        Check.due("the other high box", 242, y::now);
        y.without(11);
        Check.due("no high box, the other way", 240, y::now);
    }

    /** "and bit 7 if some act that is left FITS". */
    private static void verdictBit7OfActsThatFit() {
        PortDrawer x = Check.drawn(0L, 12);
        Check.due("act 9 fits: bit 7", 128, () -> x.now() & 128);
        x.without(9);
        Check.due("acts that do not fit are left: bit 7", 0, () -> x.now() & 128);
        Check.due("acts that do not fit are left", 1, () -> x.part(6, 4));
        // Here acts 3 and 4 both fit, and both are high.
        PortDrawer y = Check.drawn(415L, 2);
        Check.due("two that fit", 160, y::now);
        y.without(3);
        Check.due("the last of two that fit", 160, y::now);
        y.without(4);
        Check.due("none of two that fit", 0, y::now);
        PortDrawer z = Check.drawn(415L, 2);
        z.without(4);
        Check.due("the first of two that fit", 160, z::now);
        Check.due("a low act that fits: bit 7 alone of it", 130, () -> Check.drawn(61112L, 5).now());
        Check.due("a low act that does not fit", 0, () -> Check.drawn(15156L, 1).now());
    }

    /** "Of each of the 256 verdicts it was told whether it STAYS (none at first)." */
    private static void atFirstNoVerdictStays() {
        PortDrawer x = Check.drawn(0L, 0);
        Check.due("none at first", 0, () -> x.count(4));
        for (int bits = 0; bits < 256; bits++) {
            int b = bits;
            Check.due("at first: verdict(" + b + ", false)", false, () -> x.verdict(b, false));
        }
        Check.due("none at first: minimal()", false, x::minimal);
        x.verdict(0, true);
        Check.due("one told", 1, () -> x.count(4));
    }

    /** "if the verdict of what is left does not stay, nothing is done, all is left again". */
    private static void shorterWhereTheVerdictDoesNotStay() {
        // Berth and good are high, the box is low: 5 of all, 4 of the good alone.
        PortDrawer x = Check.drawn(7L, 0);
        Check.due("none stays", 3, x::shorter);
        x.verdict(4, true);
        Check.due("only what would come next stays", 3, x::shorter);
        Check.dueLeft("only what would come next stays", List.of(0, 1, 2), x);
        x.without(0);
        Check.due("what is left stays, all would not", 1, x::shorter);
        Check.dueLeft("what is left stays, all would not", List.of(2), x);
        x.verdict(4, false);
        Check.due("it stays no more", 3, x::shorter);
        Check.dueLeft("it stays no more", List.of(0, 1, 2), x);
        x.without(1);
        Check.due("5 does not stay", 3, x::shorter);
        x.verdict(5, true);
        Check.due("5 stays", 2, x::shorter);
        Check.dueLeft("5 stays", List.of(0, 2), x);
    }

    /** "that may be left out (so that .., and something is left)". */
    private static void shorterLeavesSomething() {
        PortDrawer two = Check.drawn(0L, 0);
        two.verdict(0, true);
        two.without(1);
        Check.due("two parts, none refers", 1, two::shorter);
        Check.dueLeft("two parts, none refers", List.of(2), two);
        Check.due("the last one does not go", 1, two::shorter);
        Check.dueLeft("the last one does not go", List.of(2), two);
        PortDrawer bound = Check.drawn(0L, 0);
        bound.verdict(0, true);
        bound.without(2);
        // With berth 0 the box would go and nothing be left: so the box goes first.
        Check.due("the first would take all with it", 1, bound::shorter);
        Check.dueLeft("the first would take all with it", List.of(0), bound);
    }

    /** "the first part, by number, that may be left out .. is left out". */
    private static void shorterTakesTheFirstByNumber() {
        PortDrawer x = Check.drawn(7L, 0);
        x.verdict(5, true);
        x.verdict(4, true);
        x.verdict(1, true);
        // Berth 0 or good 2 may go: the berth does, and takes the box with it.
        Check.due("the first goes", 1, x::shorter);
        Check.dueLeft("the first goes", List.of(2), x);
        PortDrawer y = Check.drawn(7L, 0);
        y.verdict(5, true);
        y.verdict(1, true);
        // Berth 0 may not go; then the box, then the good.
        Check.due("the first that may", 1, y::shorter);
        Check.dueLeft("the first that may", List.of(0), y);
    }

    /** "and so on, from part 0 anew, until there is none". */
    private static void shorterGoesFromPart0Anew() {
        PortDrawer x = Check.drawn(0L, 6);
        x.verdict(112, true);
        x.verdict(80, true);
        x.verdict(16, true);
        // Row 3 may not go before act 6 is out: 112 without it is 48, 80 without it is 16.
        Check.due("part 3 may go once part 6 is out", 2, x::shorter);
        Check.dueLeft("part 3 may go once part 6 is out", List.of(2, 4), x);
        PortDrawer y = Check.drawn(0L, 6);
        y.verdict(112, true);
        y.verdict(80, true);
        Check.due("part 3 may not go", 3, y::shorter);
        Check.dueLeft("part 3 may not go", List.of(2, 3, 4), y);
        PortDrawer most = Check.drawn(10L, 40);
        for (int bits = 0; bits < 256; bits++) {
            most.verdict(bits, true);
        }
        Check.due("all may go but one", 1, most::shorter);
    }

    /** "MINIMAL is what is left if its verdict stays". */
    private static void minimalNeedsAVerdictThatStays() {
        PortDrawer x = Check.drawn(7L, 0);
        x.without(0);
        Check.due("one part, 4 does not stay", false, x::minimal);
        x.verdict(5, true);
        Check.due("one part, another stays", false, x::minimal);
        x.verdict(4, true);
        Check.due("one part, 4 stays", true, x::minimal);
        x.verdict(4, false);
        Check.due("one part, 4 stays no more", false, x::minimal);
    }

    /** "and no part of it may be left out". */
    private static void minimalHasNoPartThatMayGo() {
        PortDrawer x = Check.drawn(7L, 0);
        x.verdict(5, true);
        Check.due("the low box may go", false, x::minimal);
        x.without(1);
        Check.due("neither berth nor good may go", true, x::minimal);
        x.verdict(1, true);
        Check.due("the last part may go", false, x::minimal);
        x.verdict(1, false);
        x.verdict(4, true);
        Check.due("the first part may go", false, x::minimal);
        PortDrawer y = Check.drawn(0L, 0);
        y.verdict(0, true);
        y.without(2);
        Check.due("the box may go, the berth would take all", false, y::minimal);
        y.without(1);
        Check.due("the berth would leave nothing", true, y::minimal);
    }

    /** "DRAWN anew all is left again", from the SEED's beginning, larger or smaller or the same. */
    private static void drawnAnewAllIsLeft() {
        PortDrawer x = Check.drawn(0L, 2);
        int[][] rows = {{0, 7, NONE}, {1, 24, 0}, {2, 36, NONE}, {6, 91, NONE}, {4, 75, 2}};
        x.without(2);
        Check.dueLeft("before", List.of(0, 1, 3), x);
        Check.due("the same size", 5, () -> x.draw(2));
        Check.dueHarbour("the same size", rows, x);
        x.without(0);
        Check.due("a smaller size", 4, () -> x.draw(1));
        Check.dueLeft("a smaller size", List.of(0, 1, 2, 3), x);
        x.without(3);
        Check.due("a larger size", 5, () -> x.draw(2));
        Check.dueHarbour("a larger size", rows, x);
        Check.due("nothing refers as in a larger one", 1, () -> {
            x.draw(0);
            return x.without(2);
        });
    }

    /** "what was told of verdicts stays". */
    private static void drawnAnewVerdictsStay() {
        PortDrawer x = new PortDrawer(7L);
        x.verdict(5, true);
        x.verdict(255, true);
        x.verdict(255, false);
        x.draw(0);
        Check.due("told before anything was drawn", 1, () -> x.count(4));
        Check.due("told before anything was drawn: shorter()", 2, x::shorter);
        x.draw(0);
        Check.due("drawn anew: it is so", false, () -> x.verdict(5, true));
        Check.due("drawn anew: taken back, it is so", false, () -> x.verdict(255, false));
        Check.due("drawn anew: shorter()", 2, x::shorter);
    }

    /** "An object is used for at most 512 calls": the 512th answers like the first. */
    private static void usedForAtMost512Calls() {
        PortDrawer x = new PortDrawer(10L);
        for (int call = 1; call < 512; call++) {
            int size = call % 41;
            Check.due("call " + call, size + 3, () -> x.draw(size));
        }
        Check.due("call 512", 43, () -> x.draw(40));
    }
}
