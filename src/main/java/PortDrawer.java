/**
 * Harbours drawn by a seed, part by part, each referring to one ahead of it; and made smaller by
 * leaving out parts, with all that refers to them, as long as a verdict on what is left stays.
 *
 * <p>A set of parts is a long whose bit i stands for part i: there are never more than 43.
 */
public final class PortDrawer {
    public static final int NONE = -1;

    private static final int BERTH = 0;
    private static final int BOX = 1;
    private static final int GOOD = 2;
    private static final int SHIP = 3;
    private static final int DECLARATION = 4;
    private static final int ACT = 5;
    private static final int ROW = 6;
    private static final int KINDS = 7;

    private static final int MAX_SIZE = 40;
    private static final int MAX_PARTS = 43;
    private static final int VALUES = 100;

    private static final int HIGH_VALUE = 50;
    private static final int FITTING_BIT = 7;
    private static final int VERDICT_BITS = 8;
    private static final int VERDICTS = 256;

    private static final int FIRST_KIND_COUNT = 10;

    private final long seed;
    private final Harbour harbour = new Harbour();
    // Only same() draws here; it is kept so that no call has to make rows of its own.
    private final Harbour otherHarbour = new Harbour();
    private final long[] goingWith = new long[MAX_PARTS];
    private final long[] partsOfBit = new long[VERDICT_BITS];
    private final boolean[] staying = new boolean[VERDICTS];
    private long leftParts = 0L;

    public PortDrawer(long seed) {
        this.seed = seed;
    }

    public int draw(int size) throws IllegalArgumentException {
        if (!isSize(size)) {
            throw new IllegalArgumentException("the size is not 0 .. 40");
        }
        harbour.fill(seed, size);
        noteGoingWith();
        notePartsOfBits();
        leftParts = allParts();
        return harbour.parts;
    }

    public int part(int i, int what) throws IndexOutOfBoundsException {
        if (!harbour.has(i)) {
            throw new IndexOutOfBoundsException("no such part");
        }
        switch (what) {
            case 0:
                return harbour.kinds[i];
            case 1:
                return harbour.ofKindAheadOf(harbour.kinds[i], i);
            case 2:
                return harbour.values[i];
            case 3:
                return harbour.references[i];
            case 4:
                return isIn(leftParts, i) ? 1 : 0;
            default:
                throw new IndexOutOfBoundsException("no such what");
        }
    }

    public boolean fits(int act) throws IllegalArgumentException {
        if (!harbour.isAct(act)) {
            throw new IllegalArgumentException("no such act");
        }
        return harbour.isFittingAct(act);
    }

    public boolean verdict(int bits, boolean stays) {
        if (bits < 0 || bits >= VERDICTS || staying[bits] == stays) {
            return false;
        }
        staying[bits] = stays;
        return true;
    }

    public int now() {
        return verdictOf(leftParts);
    }

    public int shorter() {
        if (!staysWith(leftParts)) {
            leftParts = allParts();
            return Long.bitCount(leftParts);
        }
        // Each round takes at least one part away, so there are never more rounds than parts.
        for (int round = 0; round < MAX_PARTS; round++) {
            int i = firstThatMayGo();
            if (i == NONE) {
                break;
            }
            leftParts = leftWithout(i);
        }
        return Long.bitCount(leftParts);
    }

    public int left(int i) {
        int ahead = 0;
        for (int at = 0; at < harbour.parts; at++) {
            if (isIn(leftParts, at)) {
                if (ahead == i) {
                    return at;
                }
                ahead++;
            }
        }
        return NONE;
    }

    public boolean minimal() {
        return leftParts != 0L && staysWith(leftParts) && firstThatMayGo() == NONE;
    }

    public int without(int i) throws IllegalArgumentException {
        if (!harbour.has(i) || !isIn(leftParts, i)) {
            throw new IllegalArgumentException("no such part is left");
        }
        int before = Long.bitCount(leftParts);
        leftParts = leftWithout(i);
        return before - Long.bitCount(leftParts);
    }

    public boolean same(long other, int size) throws IllegalArgumentException {
        if (!isSize(size)) {
            throw new IllegalArgumentException("the size is not 0 .. 40");
        }
        otherHarbour.fill(other, size);
        return harbour.isLike(otherHarbour);
    }

    public int count(int what) {
        switch (what) {
            case 0:
                return harbour.parts;
            case 1:
                return Long.bitCount(leftParts);
            case 2:
                return harbour.ofKindAheadOf(ACT, harbour.parts);
            case 3:
                return Long.bitCount(partsOfBit[FITTING_BIT]);
            case 4:
                return verdictsThatStay();
            default:
                return countOfKind(what);
        }
    }

    private int countOfKind(int what) {
        if (what < FIRST_KIND_COUNT || what >= FIRST_KIND_COUNT + KINDS) {
            return NONE;
        }
        return harbour.ofKindAheadOf(what - FIRST_KIND_COUNT, harbour.parts);
    }

    private int verdictsThatStay() {
        int found = 0;
        for (int bits = 0; bits < VERDICTS; bits++) {
            if (staying[bits]) {
                found++;
            }
        }
        return found;
    }

    private long allParts() {
        return (1L << harbour.parts) - 1L;
    }

    private long leftWithout(int i) {
        return leftParts & ~goingWith[i];
    }

    private boolean staysWith(long parts) {
        return staying[verdictOf(parts)];
    }

    private int verdictOf(long parts) {
        int bits = 0;
        for (int bit = 0; bit < VERDICT_BITS; bit++) {
            if ((parts & partsOfBit[bit]) != 0L) {
                bits |= 1 << bit;
            }
        }
        return bits;
    }

    private int firstThatMayGo() {
        for (int i = 0; i < harbour.parts; i++) {
            if (isIn(leftParts, i)) {
                long rest = leftWithout(i);
                if (rest != 0L && staysWith(rest)) {
                    return i;
                }
            }
        }
        return NONE;
    }

    private void noteGoingWith() {
        for (int i = 0; i < harbour.parts; i++) {
            goingWith[i] = 1L << i;
        }
        // From the last part on down: a part refers ahead only, so what goes with it is whole by then.
        for (int i = harbour.parts - 1; i >= 0; i--) {
            int reference = harbour.references[i];
            if (harbour.has(reference)) {
                goingWith[reference] |= goingWith[i];
            }
        }
    }

    private void notePartsOfBits() {
        for (int bit = 0; bit < VERDICT_BITS; bit++) {
            partsOfBit[bit] = 0L;
        }
        for (int i = 0; i < harbour.parts; i++) {
            int kind = harbour.kinds[i];
            if (harbour.values[i] >= HIGH_VALUE && kind >= 0 && kind < KINDS) {
                partsOfBit[kind] |= 1L << i;
            }
            if (harbour.isFittingAct(i)) {
                partsOfBit[FITTING_BIT] |= 1L << i;
            }
        }
    }

    private static boolean isIn(long parts, int i) {
        return ((parts >>> i) & 1L) != 0L;
    }

    private static boolean isSize(int size) {
        return size >= 0 && size <= MAX_SIZE;
    }

    private static boolean mayRefer(int kind, int toKind) {
        switch (kind) {
            case BOX:
            case SHIP:
                return toKind == BERTH;
            case DECLARATION:
                return toKind == GOOD;
            case ACT:
                return toKind == BOX || toKind == SHIP || toKind == DECLARATION;
            case ROW:
                return toKind == DECLARATION || toKind == ACT;
            default:
                return false;
        }
    }

    /** The numbers that a seed tells, one behind the other. */
    private static final class Tape {
        private static final long FACTOR = 6364136223846793005L;
        private static final long SUMMAND = 1442695040888963407L;
        private static final int LOW_BITS = 33;

        private long x = 0L;

        private void rewind(long seed) {
            x = seed;
        }

        /** Below nothing there is no number: then the tape stays where it is. */
        private int numberBelow(int n) {
            if (n < 1) {
                return NONE;
            }
            x = x * FACTOR + SUMMAND;
            return (int) (x >>> LOW_BITS) % n;
        }
    }

    /** The parts as a seed draws them; what is left of them is not told here. */
    private static final class Harbour {
        private final Tape tape = new Tape();
        private final int[] kinds = new int[MAX_PARTS];
        private final int[] values = new int[MAX_PARTS];
        private final int[] references = new int[MAX_PARTS];
        private int parts = 0;

        private void fill(long seed, int size) {
            tape.rewind(seed);
            parts = 0;
            addPart(BERTH);
            addPart(BOX);
            addPart(GOOD);
            for (int more = 0; more < size; more++) {
                addPart(tape.numberBelow(KINDS));
            }
        }

        private void addPart(int kind) {
            if (parts >= MAX_PARTS) {
                return;
            }
            kinds[parts] = kind;
            values[parts] = tape.numberBelow(VALUES);
            references[parts] = drawReference(kind);
            parts++;
        }

        private int drawReference(int kind) {
            int pick = tape.numberBelow(partsToReferTo(kind));
            int ahead = 0;
            for (int i = 0; i < parts; i++) {
                if (mayRefer(kind, kinds[i])) {
                    if (ahead == pick) {
                        return i;
                    }
                    ahead++;
                }
            }
            return NONE;
        }

        private int partsToReferTo(int kind) {
            int found = 0;
            for (int i = 0; i < parts; i++) {
                if (mayRefer(kind, kinds[i])) {
                    found++;
                }
            }
            return found;
        }

        private boolean has(int i) {
            return i >= 0 && i < parts;
        }

        private boolean isAct(int i) {
            return has(i) && kinds[i] == ACT;
        }

        private boolean isFittingAct(int i) {
            if (!isAct(i)) {
                return false;
            }
            int reference = references[i];
            return has(reference) && values[reference] % 2 == values[i] % 2;
        }

        private int ofKindAheadOf(int kind, int end) {
            int found = 0;
            for (int i = 0; i < end && i < parts; i++) {
                if (kinds[i] == kind) {
                    found++;
                }
            }
            return found;
        }

        private boolean isLike(Harbour other) {
            if (other == null || other.parts != parts) {
                return false;
            }
            for (int i = 0; i < parts; i++) {
                if (kinds[i] != other.kinds[i]
                        || values[i] != other.values[i]
                        || references[i] != other.references[i]) {
                    return false;
                }
            }
            return true;
        }
    }
}
