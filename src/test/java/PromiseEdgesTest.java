import java.util.List;
import java.util.function.Supplier;

/**
 * Each sentence of the promises that names a boundary case, by itself, on both sides of the boundary.
 * Where a call is refused, the object must be like one that was not called.
 */
public final class PromiseEdgesTest {
    private static final int NONE = -1;
    private static final int LOWEST = Integer.MIN_VALUE;
    private static final int HIGHEST = Integer.MAX_VALUE;
    private static final String ILLEGAL = "throws.IllegalArgumentException";
    private static final String OUT_OF_BOUNDS = "throws.IndexOutOfBoundsException";

    public static void main(String[] args) {
        promise1NothingIsDrawnYet();
        promise1AnyLongIsASeed();
        promise2SizeNot0To40();
        promise2FromTheSeedsBeginning();
        promise3NoSuchPart();
        promise3NoSuchWhat();
        promise3WhichOfItsKind();
        promise3LeftOrNot();
        promise4NoSuchPart();
        promise4NoAct();
        promise4LeftOrNot();
        promise5Not0To255();
        promise5ItIsSo();
        promise6OfNothing();
        promise7HowManyAreLeft();
        promise7OfNothing();
        promise8NoneWithout();
        promise9FalseOfNothing();
        promise10NoSuchPart();
        promise10LeftOutAlready();
        promise10HowManyGo();
        promise10WhateverTheVerdict();
        promise11SizeNot0To40();
        promise11JustWhatLiesHere();
        promise11OfNothing();
        promise12AnotherWhatOrKind();
        promise12CountsFromNothingToAll();
        promise12LeftOrNot();
        Check.end();
    }

    /** Fifteen parts, of which part 4 and with it 6, 8, 9, 13 are out, and two verdicts stay. */
    private static PortDrawer used() {
        PortDrawer x = Check.drawn(0L, 12);
        x.verdict(0, true);
        x.verdict(255, true);
        x.without(4);
        return x;
    }

    private static PortDrawer nothingDrawn() {
        return new PortDrawer(0L);
    }

    private static PortDrawer nothingLeft() {
        PortDrawer x = Check.drawn(7L, 0);
        x.without(0);
        x.without(2);
        return x;
    }

    /** Three parts, of which the good alone is left; all verdicts are 0. */
    private static PortDrawer oneLeft() {
        PortDrawer x = Check.drawn(0L, 0);
        x.without(0);
        return x;
    }

    /** "nothing is drawn yet", and then it is. */
    private static void promise1NothingIsDrawnYet() {
        PortDrawer x = nothingDrawn();
        for (int what : new int[] {0, 1, 2, 3, 4, 10, 11, 12, 13, 14, 15, 16}) {
            Check.due("nothing drawn: count(" + what + ")", 0, () -> x.count(what));
        }
        Check.due("nothing drawn: part(0, 0)", OUT_OF_BOUNDS, () -> x.part(0, 0));
        Check.due("nothing drawn: fits(0)", ILLEGAL, () -> x.fits(0));
        Check.due("nothing drawn: without(0)", ILLEGAL, () -> x.without(0));
        Check.due("nothing drawn: left(0)", NONE, () -> x.left(0));
        Check.due("nothing drawn: now()", 0, x::now);
        Check.due("nothing drawn: shorter()", 0, x::shorter);
        Check.due("nothing drawn: minimal()", false, x::minimal);
        Check.due("nothing drawn: same(0, 0)", false, () -> x.same(0L, 0));
        Check.due("drawn: draw(0)", 3, () -> x.draw(0));
        Check.due("drawn: count(0)", 3, () -> x.count(0));
        Check.due("drawn: part(0, 0)", 0, () -> x.part(0, 0));
        Check.due("drawn: left(0)", 0, () -> x.left(0));
        Check.due("drawn: same(0, 0)", true, () -> x.same(0L, 0));
        Check.due("drawn: without(0)", 2, () -> x.without(0));
    }

    /** "A SEED": the lowest and the highest long, and those around 0. */
    private static void promise1AnyLongIsASeed() {
        long[] seeds = {Long.MIN_VALUE, -1L, 0L, 1L, Long.MAX_VALUE};
        int[] firstValues = {31, 88, 7, 74, 64};
        for (int i = 0; i < seeds.length; i++) {
            long seed = seeds[i];
            Check.due("seed " + seed, firstValues[i], () -> Check.drawn(seed, 0).part(0, 2));
        }
        // Two seeds that differ in the highest bit alone are two seeds.
        Check.due("seed 0 and the lowest", false, () -> Check.drawn(0L, 0).same(Long.MIN_VALUE, 0));
    }

    /** "IllegalArgumentException if the size is not 0 .. 40." */
    private static void promise2SizeNot0To40() {
        for (int size : new int[] {LOWEST, -2, -1, 41, 42, 43, HIGHEST}) {
            String call = "draw(" + size + ")";
            Check.dueUntouched(call, ILLEGAL, PromiseEdgesTest::used, x -> x.draw(size));
            Check.dueUntouched("nothing drawn: " + call, ILLEGAL, PromiseEdgesTest::nothingDrawn,
                    x -> x.draw(size));
        }
        for (int size : new int[] {0, 1, 39, 40}) {
            Check.due("draw(" + size + ")", size + 3, () -> used().draw(size));
        }
    }

    /** "from the SEED's beginning": drawn again, the tape does not go on where it was. */
    private static void promise2FromTheSeedsBeginning() {
        int[][] rows = {{0, 7, NONE}, {1, 24, 0}, {2, 36, NONE}, {6, 91, NONE}};
        PortDrawer x = nothingDrawn();
        x.draw(1);
        Check.dueHarbour("the first time", rows, x);
        x.draw(1);
        Check.dueHarbour("the second time", rows, x);
        x.same(5L, 40);
        x.draw(1);
        Check.dueHarbour("once another seed was asked for", rows, x);
    }

    /** "IndexOutOfBoundsException if there is no such part .." */
    private static void promise3NoSuchPart() {
        for (int i : new int[] {LOWEST, -2, -1, 15, 16, 42, 43, 64, HIGHEST}) {
            Check.dueUntouched("part(" + i + ", 0)", OUT_OF_BOUNDS, PromiseEdgesTest::used,
                    x -> x.part(i, 0));
        }
        Check.due("the first of 15", 0, () -> used().part(0, 0));
        Check.due("the last of 15", 1, () -> used().part(14, 0));
        Check.due("the last of 3", 2, () -> Check.drawn(10L, 0).part(2, 0));
        Check.due("behind the last of 3", OUT_OF_BOUNDS, () -> Check.drawn(10L, 0).part(3, 0));
        Check.due("the last of 43", 5, () -> Check.drawn(10L, 40).part(42, 0));
        Check.due("behind the last of 43", OUT_OF_BOUNDS, () -> Check.drawn(10L, 40).part(43, 0));
        PortDrawer smaller = Check.drawn(10L, 40);
        smaller.draw(39);
        Check.due("drawn smaller: the last", 4, () -> smaller.part(41, 0));
        Check.due("drawn smaller: behind the last", OUT_OF_BOUNDS, () -> smaller.part(42, 0));
    }

    /** "IndexOutOfBoundsException if there is no such .. what." */
    private static void promise3NoSuchWhat() {
        for (int what : new int[] {LOWEST, -2, -1, 5, 6, HIGHEST}) {
            Check.dueUntouched("part(14, " + what + ")", OUT_OF_BOUNDS, PromiseEdgesTest::used,
                    x -> x.part(14, what));
            Check.due("part(15, " + what + ")", OUT_OF_BOUNDS, () -> used().part(15, what));
        }
        int[] answers = {1, 3, 74, 0, 1};
        for (int what = 0; what < answers.length; what++) {
            int w = what;
            Check.due("part(14, " + w + ")", answers[w], () -> used().part(14, w));
        }
    }

    /** "1: which of its kind (0 the first)". */
    private static void promise3WhichOfItsKind() {
        PortDrawer x = Check.drawn(10L, 40);
        Check.due("the first berth", 0, () -> x.part(0, 1));
        Check.due("the first good", 0, () -> x.part(2, 1));
        Check.due("the first act", 0, () -> x.part(9, 1));
        Check.due("the second act", 1, () -> x.part(13, 1));
        Check.due("the last of eight acts", 7, () -> x.part(42, 1));
        x.without(9);
        Check.due("the first act is out", 1, () -> x.part(13, 1));
        Check.due("the first act, left out", 0, () -> x.part(9, 1));
    }

    /** "4: 1 if it is left, else 0", and "3: what it REFERS to (NONE)". */
    private static void promise3LeftOrNot() {
        PortDrawer x = used();
        Check.due("left: part(2, 4)", 1, () -> x.part(2, 4));
        Check.due("left out: part(4, 4)", 0, () -> x.part(4, 4));
        Check.due("left out with it: part(13, 4)", 0, () -> x.part(13, 4));
        Check.due("left out, refers to one that is left: part(4, 3)", 2, () -> x.part(4, 3));
        Check.due("left out with what it refers to: part(13, 3)", 4, () -> x.part(13, 3));
        Check.due("a row that refers to none: part(3, 3)", NONE, () -> x.part(3, 3));
        Check.due("a row that refers to an act: part(8, 3)", 6, () -> x.part(8, 3));
    }

    /** "IllegalArgumentException if there is no such part" (fits). */
    private static void promise4NoSuchPart() {
        for (int i : new int[] {LOWEST, -1, 15, 42, 43, 64, HIGHEST}) {
            Check.dueUntouched("fits(" + i + ")", ILLEGAL, PromiseEdgesTest::used, x -> x.fits(i));
        }
        Check.due("the last part, an act", true, () -> Check.drawn(18L, 1).fits(3));
        Check.due("behind the last part", ILLEGAL, () -> Check.drawn(18L, 1).fits(4));
        Check.due("the last of 43, an act", true, () -> Check.drawn(10L, 40).fits(42));
        Check.due("behind the last of 43", ILLEGAL, () -> Check.drawn(10L, 40).fits(43));
        PortDrawer smaller = Check.drawn(18L, 1);
        smaller.draw(0);
        Check.due("drawn smaller: the act is no part", ILLEGAL, () -> smaller.fits(3));
    }

    /** "IllegalArgumentException if .., or it is no act": a part of each other kind. */
    private static void promise4NoAct() {
        int[] partsByKind = {0, 1, 2, 7, 4, 6, 3};
        for (int kind = 0; kind < partsByKind.length; kind++) {
            int i = partsByKind[kind];
            Check.due("kind " + kind, kind, () -> used().part(i, 0));
            if (kind != 5) {
                Check.dueUntouched("no act: fits(" + i + ")", ILLEGAL, PromiseEdgesTest::used,
                        x -> x.fits(i));
            }
        }
        Check.dueUntouched("an act that fits not: fits(6)", false, PromiseEdgesTest::used,
                x -> x.fits(6));
        Check.dueUntouched("an act that fits: fits(9)", true, PromiseEdgesTest::used, x -> x.fits(9));
    }

    /** "Whether an act FITS (left or not)". */
    private static void promise4LeftOrNot() {
        PortDrawer x = Check.drawn(0L, 12);
        Check.due("left: fits(9)", true, () -> x.fits(9));
        Check.due("left: fits(6)", false, () -> x.fits(6));
        x.without(9);
        x.without(6);
        Check.due("left out: fits(9)", true, () -> x.fits(9));
        Check.due("left out: fits(6)", false, () -> x.fits(6));
        x.without(2);
        Check.due("what it refers to is left out: fits(9)", true, () -> x.fits(9));
    }

    /** "false if it is not 0 .. 255". */
    private static void promise5Not0To255() {
        for (int bits : new int[] {LOWEST, -256, -1, 256, 257, 511, HIGHEST}) {
            for (boolean stays : new boolean[] {true, false}) {
                Check.dueUntouched("verdict(" + bits + ", " + stays + ")", false,
                        PromiseEdgesTest::used, x -> x.verdict(bits, stays));
            }
        }
        for (int bits : new int[] {0, 1, 254, 255}) {
            PortDrawer x = nothingDrawn();
            Check.due("verdict(" + bits + ", true)", true, () -> x.verdict(bits, true));
            Check.due("verdict(" + bits + ", false)", true, () -> x.verdict(bits, false));
        }
    }

    /** "false if .., or it is so". */
    private static void promise5ItIsSo() {
        Check.dueUntouched("it stays: verdict(255, true)", false, PromiseEdgesTest::used,
                x -> x.verdict(255, true));
        Check.dueUntouched("it does not: verdict(254, false)", false, PromiseEdgesTest::used,
                x -> x.verdict(254, false));
        PortDrawer x = used();
        Check.due("it is not so: verdict(254, true)", true, () -> x.verdict(254, true));
        Check.due("now it is: verdict(254, true)", false, () -> x.verdict(254, true));
        Check.due("its neighbours are as before", 3, () -> x.count(4));
        Check.due("it is not so: verdict(254, false)", true, () -> x.verdict(254, false));
        Check.due("now it is: verdict(254, false)", false, () -> x.verdict(254, false));
        Check.due("its neighbours are as before", 2, () -> x.count(4));
    }

    /** "The VERDICT of what is left (0 of nothing)." */
    private static void promise6OfNothing() {
        Check.due("nothing drawn", 0, () -> nothingDrawn().now());
        PortDrawer x = Check.drawn(7L, 0);
        Check.due("all", 5, x::now);
        x.without(0);
        Check.due("the last part", 4, x::now);
        x.without(2);
        Check.due("nothing", 0, x::now);
        x.verdict(4, true);
        Check.due("nothing, whatever stays", 0, x::now);
        Check.due("all bits", 255, () -> Check.drawn(10L, 40).now());
        Check.dueUntouched("asking changes nothing", 66, PromiseEdgesTest::used, PortDrawer::now);
    }

    /** "SHORTER: how many parts are left." */
    private static void promise7HowManyAreLeft() {
        PortDrawer x = Check.drawn(10L, 40);
        Check.due("the most, none may go", 43, x::shorter);
        Check.due("one left, none may go", 1, () -> {
            PortDrawer y = oneLeft();
            y.verdict(0, true);
            return y.shorter();
        });
        PortDrawer z = Check.drawn(61112L, 5);
        z.verdict(130, true);
        Check.due("some go", 4, z::shorter);
        Check.dueLeft("some go", List.of(0, 3, 4, 7), z);
        Check.due("none more goes", 4, z::shorter);
        Check.due("as it is counted", 4, () -> z.count(1));
    }

    /** SHORTER of nothing: its verdict, 0, stays or not. */
    private static void promise7OfNothing() {
        PortDrawer x = nothingLeft();
        x.verdict(0, true);
        Check.due("nothing left, 0 stays", 0, x::shorter);
        Check.due("nothing left, 0 stays: count(1)", 0, () -> x.count(1));
        x.verdict(0, false);
        Check.due("nothing left, 0 does not stay", 3, x::shorter);
        Check.dueLeft("nothing left, 0 does not stay", List.of(0, 1, 2), x);
        PortDrawer y = nothingDrawn();
        Check.due("nothing drawn, 0 does not stay", 0, y::shorter);
        y.verdict(0, true);
        Check.due("nothing drawn, 0 stays", 0, y::shorter);
    }

    /** "The i-th part that is left, the first at 0; NONE without." */
    private static void promise8NoneWithout() {
        for (int i : new int[] {LOWEST, -1, 10, 14, 15, 43, HIGHEST}) {
            Check.dueUntouched("left(" + i + ") of 10", NONE, PromiseEdgesTest::used, x -> x.left(i));
        }
        Check.dueUntouched("the first of 10", 0, PromiseEdgesTest::used, x -> x.left(0));
        Check.dueUntouched("the last of 10", 14, PromiseEdgesTest::used, x -> x.left(9));
        Check.due("behind a part that is out", 5, () -> used().left(4));
        Check.due("the only one", 2, () -> oneLeft().left(0));
        Check.due("behind the only one", NONE, () -> oneLeft().left(1));
        Check.due("of nothing left", NONE, () -> nothingLeft().left(0));
        Check.due("of nothing drawn", NONE, () -> nothingDrawn().left(0));
        Check.due("the last of 43", 42, () -> Check.drawn(10L, 40).left(42));
        Check.due("behind the last of 43", NONE, () -> Check.drawn(10L, 40).left(43));
    }

    /** "Whether what is left is MINIMAL (false if nothing is)." */
    private static void promise9FalseOfNothing() {
        dueMinimalOnceAllStay("nothing drawn", false, PromiseEdgesTest::nothingDrawn);
        dueMinimalOnceAllStay("nothing left", false, PromiseEdgesTest::nothingLeft);
        dueMinimalOnceAllStay("one left", true, PromiseEdgesTest::oneLeft);
        dueMinimalOnceAllStay("ten left", false, PromiseEdgesTest::used);
        PortDrawer x = Check.drawn(61112L, 5);
        x.verdict(130, true);
        x.shorter();
        Check.due("what SHORTER leaves", true, x::minimal);
        Check.dueLeft("asking leaves out nothing", List.of(0, 3, 4, 7), x);
    }

    private static void dueMinimalOnceAllStay(String what, boolean want, Supplier<PortDrawer> maker) {
        PortDrawer x = maker.get();
        Check.due(what + ", 0 does not stay", false, x::minimal);
        for (int bits = 0; bits < 256; bits++) {
            x.verdict(bits, true);
        }
        Check.due(what + ", all stay", want, x::minimal);
    }

    /** "IllegalArgumentException if there is no such part" (without). */
    private static void promise10NoSuchPart() {
        for (int i : new int[] {LOWEST, -64, -1, 15, 16, 42, 43, 64, 78, HIGHEST}) {
            Check.dueUntouched("without(" + i + ")", ILLEGAL, PromiseEdgesTest::used,
                    x -> x.without(i));
        }
        Check.due("the first of 15", 7, () -> used().without(0));
        Check.due("the last of 15", 1, () -> used().without(14));
        Check.due("the last of 43", 1, () -> Check.drawn(10L, 40).without(42));
        Check.due("behind the last of 43", ILLEGAL, () -> Check.drawn(10L, 40).without(43));
        PortDrawer smaller = Check.drawn(10L, 40);
        smaller.draw(0);
        Check.due("drawn smaller: behind the last", ILLEGAL, () -> smaller.without(3));
        Check.due("drawn smaller: the last", 1, () -> smaller.without(2));
    }

    /** "IllegalArgumentException if .., or it is left out": by itself, with another, by SHORTER. */
    private static void promise10LeftOutAlready() {
        for (int i : new int[] {4, 6, 8, 9, 13}) {
            Check.dueUntouched("left out: without(" + i + ")", ILLEGAL, PromiseEdgesTest::used,
                    x -> x.without(i));
        }
        Check.due("left: without(2)", 1, () -> used().without(2));
        PortDrawer x = Check.drawn(61112L, 5);
        x.verdict(130, true);
        x.shorter();
        Check.due("left out by shorter()", ILLEGAL, () -> x.without(5));
        Check.due("left by shorter()", 1, () -> x.without(4));
        Check.due("left out since", ILLEGAL, () -> x.without(4));
        Check.due("shorter() of what does not stay", 8, x::shorter);
        Check.due("left again", 2, () -> x.without(4));
        x.draw(5);
        Check.due("drawn anew", 2, () -> x.without(4));
    }

    /** "how many go": those that are left, no others. */
    private static void promise10HowManyGo() {
        PortDrawer x = Check.drawn(61112L, 5);
        Check.due("it alone", 1, () -> x.without(2));
        Check.due("the last of a chain", 1, () -> x.without(5));
        Check.due("the rest of the chain", 2, () -> x.without(3));
        Check.due("what refers and is left", 3, () -> x.without(0));
        Check.due("the last one", 1, () -> x.without(6));
        Check.due("nothing is left", 0, () -> x.count(1));
        Check.due("all at once but good and berth", 6, () -> Check.drawn(61112L, 5).without(0));
    }

    /** "A part is LEFT OUT whatever the verdict is", and if nothing is left then. */
    private static void promise10WhateverTheVerdict() {
        PortDrawer x = Check.drawn(7L, 0);
        Check.due("no verdict stays", 1, () -> x.without(1));
        x.verdict(5, true);
        Check.due("the verdict stays, then not", 1, () -> x.without(2));
        Check.due("nothing is left then", 1, () -> x.without(0));
        Check.dueLeft("nothing is left then", List.of(), x);
    }

    /** "IllegalArgumentException if the size is not 0 .. 40" (same). */
    private static void promise11SizeNot0To40() {
        for (int size : new int[] {LOWEST, -3, -1, 41, 43, HIGHEST}) {
            String call = "same(0, " + size + ")";
            Check.dueUntouched(call, ILLEGAL, PromiseEdgesTest::used, x -> x.same(0L, size));
            Check.dueUntouched("nothing drawn: " + call, ILLEGAL, PromiseEdgesTest::nothingDrawn,
                    x -> x.same(0L, size));
        }
        for (int size : new int[] {0, 1, 39, 40}) {
            Check.due("same(10, " + size + ")", true, () -> Check.drawn(10L, size).same(10L, size));
        }
    }

    /** "just what lies here, with this size": not one part less, not one more. */
    private static void promise11JustWhatLiesHere() {
        Check.dueUntouched("one less", false, PromiseEdgesTest::used, x -> x.same(0L, 11));
        Check.dueUntouched("just so", true, PromiseEdgesTest::used, x -> x.same(0L, 12));
        Check.dueUntouched("one more", false, PromiseEdgesTest::used, x -> x.same(0L, 13));
        Check.dueUntouched("another seed", false, PromiseEdgesTest::used, x -> x.same(1L, 12));
        Check.due("of the least size, one more", false, () -> Check.drawn(10L, 0).same(10L, 1));
        Check.due("of the largest size, one less", false, () -> Check.drawn(10L, 40).same(10L, 39));
        Check.due("another seed, all three parts alike", true,
                () -> Check.drawn(64L, 0).same(16091L, 0));
        Check.due("another seed, the fourth part not", false,
                () -> Check.drawn(64L, 1).same(16091L, 1));
        Check.due("a kind alone differs", false, () -> Check.drawn(41318L, 1).same(126542L, 1));
        Check.due("a value alone differs", false, () -> Check.drawn(7L, 0).same(9382L, 0));
        Check.due("a reference alone differs", false,
                () -> Check.drawn(26931913L, 2).same(27017137L, 2));
        PortDrawer x = Check.drawn(10L, 40);
        x.draw(0);
        Check.due("drawn anew: what lay here", false, () -> x.same(10L, 40));
        Check.due("drawn anew: what lies here", true, () -> x.same(10L, 0));
    }

    /** Where nothing lies, no seed draws just that: three parts are the least. */
    private static void promise11OfNothing() {
        Check.due("nothing drawn, the least size", false, () -> nothingDrawn().same(0L, 0));
        Check.due("nothing drawn, the largest size", false, () -> nothingDrawn().same(0L, 40));
        // What lies here is the harbour as drawn, whatever is left out of it.
        Check.due("nothing left", true, () -> nothingLeft().same(7L, 0));
    }

    /** "NONE for another what or kind." */
    private static void promise12AnotherWhatOrKind() {
        for (int what : new int[] {LOWEST, LOWEST + 9, LOWEST + 10, -10, -1, 5, 6, 7, 8, 9, 17, 18,
                HIGHEST}) {
            Check.dueUntouched("count(" + what + ")", NONE, PromiseEdgesTest::used,
                    x -> x.count(what));
            Check.due("nothing drawn: count(" + what + ")", NONE, () -> nothingDrawn().count(what));
        }
        Check.dueUntouched("the first what", 15, PromiseEdgesTest::used, x -> x.count(0));
        Check.dueUntouched("the last what", 2, PromiseEdgesTest::used, x -> x.count(4));
        Check.dueUntouched("the first kind", 1, PromiseEdgesTest::used, x -> x.count(10));
        Check.dueUntouched("the last kind", 2, PromiseEdgesTest::used, x -> x.count(16));
    }

    /** Each count where there is nothing to count, and where there is the most. */
    private static void promise12CountsFromNothingToAll() {
        int[] least = {3, 3, 0, 0, 0, NONE, NONE, NONE, NONE, NONE, 1, 1, 1, 0, 0, 0, 0};
        int[] most = {43, 43, 8, 4, 256, NONE, NONE, NONE, NONE, NONE, 8, 5, 6, 5, 5, 8, 6};
        PortDrawer x = Check.drawn(10L, 0);
        PortDrawer y = Check.drawn(10L, 40);
        for (int bits = 0; bits < 256; bits++) {
            y.verdict(bits, true);
        }
        for (int what = 0; what < least.length; what++) {
            int w = what;
            Check.due("the least: count(" + w + ")", least[w], () -> x.count(w));
            Check.due("the most: count(" + w + ")", most[w], () -> y.count(w));
        }
        y.draw(0);
        for (int what : new int[] {0, 1, 2, 3, 10, 11, 12, 13, 14, 15, 16}) {
            Check.due("the most, drawn smaller: count(" + what + ")", least[what], () -> y.count(what));
        }
        Check.due("nothing left: count(0)", 3, () -> nothingLeft().count(0));
        Check.due("nothing left: count(1)", 0, () -> nothingLeft().count(1));
    }

    /** "3: acts that fit (left or not)"; only "1: parts left" asks what is left. */
    private static void promise12LeftOrNot() {
        PortDrawer x = Check.drawn(0L, 12);
        int[] before = {15, 15, 3, 1, 0};
        int[] after = {15, 9, 3, 1, 0};
        for (int what = 0; what < before.length; what++) {
            int w = what;
            Check.due("all left: count(" + w + ")", before[w], () -> x.count(w));
        }
        x.without(2);
        for (int what = 0; what < after.length; what++) {
            int w = what;
            Check.due("all acts out: count(" + w + ")", after[w], () -> x.count(w));
        }
        Check.due("all acts out: count(15)", 3, () -> x.count(15));
        Check.due("all declarations out: count(14)", 1, () -> x.count(14));
    }
}
