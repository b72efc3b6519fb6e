import java.math.BigInteger;
import java.util.ArrayList;
import java.util.HashSet;
import java.util.List;
import java.util.Random;
import java.util.Set;
import java.util.TreeSet;

/** Long runs of calls, each answer held against a slow second writing of the document. */
public final class ModelTest {
    private static final int RUNS = 1500;
    private static final int CALLS = 512;
    private static final int[] EDGES =
        {-1, 0, 40, 41, 42, 43, 44, 63, 64, 255, 256, Integer.MIN_VALUE, Integer.MAX_VALUE};

    public static void main(String[] args) {
        for (int run = 0; run < RUNS && Check.wrongSoFar() == 0; run++) {
            playRun(new Random(run), run);
        }
        Check.end();
    }

    private static void playRun(Random random, int run) {
        long seed = run % 3 == 0 ? run : random.nextLong();
        PortDrawer x = new PortDrawer(seed);
        Model model = new Model(seed);
        for (int call = 0; call < CALLS; call++) {
            playCall(random, x, model, "seed " + seed + ", call " + call + ": ");
        }
    }

    private static int number(Random random, int below) {
        return random.nextInt(20) == 0 ? EDGES[random.nextInt(EDGES.length)] : random.nextInt(below);
    }

    private static void playCall(Random random, PortDrawer x, Model model, String at) {
        int a = number(random, 44);
        int b = number(random, 6);
        switch (random.nextInt(14)) {
            case 0:
                if (random.nextInt(6) == 0) {
                    hold(at + "draw " + a, () -> model.draw(a), () -> x.draw(a));
                }
                break;
            case 1:
                hold(at + "part " + a + " " + b, () -> model.part(a, b), () -> x.part(a, b));
                break;
            case 2:
                hold(at + "fits " + a, () -> model.fits(a), () -> x.fits(a));
                break;
            case 3:
            case 4:
            case 5:
                tellVerdict(random, x, model, at);
                break;
            case 6:
                hold(at + "now", model::now, x::now);
                break;
            case 7:
                if (random.nextInt(4) == 0) {
                    hold(at + "shorter", model::shorter, x::shorter);
                }
                break;
            case 8:
                hold(at + "left " + a, () -> model.left(a), () -> x.left(a));
                break;
            case 9:
                hold(at + "minimal", model::minimal, x::minimal);
                break;
            case 10:
                if (random.nextInt(3) == 0) {
                    hold(at + "without " + a, () -> model.without(a), () -> x.without(a));
                }
                break;
            case 11:
                long other = random.nextBoolean() ? model.seed : random.nextLong();
                int size = random.nextBoolean() ? model.parts.size() - 3 : a;
                hold(at + "same " + other + " " + size,
                        () -> model.same(other, size), () -> x.same(other, size));
                break;
            default:
                int what = number(random, 19);
                hold(at + "count " + what, () -> model.count(what), () -> x.count(what));
        }
    }

    /** Mostly of verdicts that may come up next: others would hardly ever let a part go. */
    private static void tellVerdict(Random random, PortDrawer x, Model model, String at) {
        int bits = number(random, 256);
        if (random.nextInt(4) != 0 && !model.left.isEmpty()) {
            List<Integer> left = new ArrayList<>(model.left);
            Set<Integer> rest = new TreeSet<>(model.left);
            for (int n = random.nextInt(4); n > 0; n--) {
                rest.removeAll(model.goingWith(left.get(random.nextInt(left.size()))));
            }
            bits = model.verdictOf(rest);
        }
        int told = bits;
        boolean stays = random.nextInt(5) != 0;
        hold(at + "verdict " + told + " " + stays,
                () -> model.verdict(told, stays), () -> x.verdict(told, stays));
    }

    private static void hold(String what, Check.Call model, Check.Call program) {
        Check.due(what, Check.answerOf(model), program);
    }

    private record Part(int kind, int value, int reference) {
    }

    private static final class Model {
        private static final BigInteger TWO_64 = BigInteger.ONE.shiftLeft(64);
        private static final BigInteger FACTOR = new BigInteger("6364136223846793005");
        private static final BigInteger SUMMAND = new BigInteger("1442695040888963407");
        private static final List<Set<Integer>> TARGETS = List.of(Set.of(), Set.of(0), Set.of(),
                Set.of(0), Set.of(2), Set.of(1, 3, 4), Set.of(4, 5));

        final long seed;
        List<Part> parts = new ArrayList<>();
        Set<Integer> left = new TreeSet<>();
        final Set<Integer> staying = new HashSet<>();
        private BigInteger x;

        Model(long seed) {
            this.seed = seed;
        }

        private int next(int n) {
            x = x.multiply(FACTOR).add(SUMMAND).mod(TWO_64);
            return x.shiftRight(33).mod(BigInteger.valueOf(n)).intValueExact();
        }

        private List<Part> harbour(long from, int size) {
            if (size < 0 || size > 40) {
                throw new IllegalArgumentException();
            }
            x = BigInteger.valueOf(from).mod(TWO_64);
            List<Part> made = new ArrayList<>();
            for (int i = 0; i < size + 3; i++) {
                int kind = i < 3 ? i : next(7);
                int value = next(100);
                List<Integer> choice = new ArrayList<>();
                for (int j = 0; j < i; j++) {
                    if (TARGETS.get(kind).contains(made.get(j).kind())) {
                        choice.add(j);
                    }
                }
                made.add(new Part(kind, value, choice.isEmpty() ? -1 : choice.get(next(choice.size()))));
            }
            return made;
        }

        private void leaveAll() {
            left = new TreeSet<>();
            for (int i = 0; i < parts.size(); i++) {
                left.add(i);
            }
        }

        Set<Integer> goingWith(int i) {
            Set<Integer> going = new TreeSet<>(Set.of(i));
            for (boolean grown = true; grown; ) {
                grown = false;
                for (int j = 0; j < parts.size(); j++) {
                    if (going.contains(parts.get(j).reference()) && going.add(j)) {
                        grown = true;
                    }
                }
            }
            return going;
        }

        private boolean isPart(int i) {
            return i >= 0 && i < parts.size();
        }

        private boolean fitting(Part p) {
            return p.kind() == 5 && p.reference() >= 0
                    && (p.value() + parts.get(p.reference()).value()) % 2 == 0;
        }

        int verdictOf(Set<Integer> some) {
            int bits = 0;
            for (int i : some) {
                Part p = parts.get(i);
                bits |= (p.value() >= 50 ? 1 << p.kind() : 0) | (fitting(p) ? 128 : 0);
            }
            return bits;
        }

        private Set<Integer> nextShorter() {
            for (int i : left) {
                Set<Integer> rest = new TreeSet<>(left);
                rest.removeAll(goingWith(i));
                if (!rest.isEmpty() && staying.contains(verdictOf(rest))) {
                    return rest;
                }
            }
            return null;
        }

        int draw(int size) {
            parts = harbour(seed, size);
            leaveAll();
            return parts.size();
        }

        int part(int i, int what) {
            if (!isPart(i) || what < 0 || what > 4) {
                throw new IndexOutOfBoundsException();
            }
            Part p = parts.get(i);
            long which = parts.subList(0, i).stream().filter(q -> q.kind() == p.kind()).count();
            return new int[] {p.kind(), (int) which, p.value(), p.reference(),
                left.contains(i) ? 1 : 0}[what];
        }

        boolean fits(int i) {
            if (!isPart(i) || parts.get(i).kind() != 5) {
                throw new IllegalArgumentException();
            }
            return fitting(parts.get(i));
        }

        boolean verdict(int bits, boolean stays) {
            return bits >= 0 && bits < 256 && (stays ? staying.add(bits) : staying.remove(bits));
        }

        int now() {
            return verdictOf(left);
        }

        int shorter() {
            if (!staying.contains(now())) {
                leaveAll();
                return left.size();
            }
            for (Set<Integer> rest = nextShorter(); rest != null; rest = nextShorter()) {
                left = rest;
            }
            return left.size();
        }

        int left(int i) {
            return i < 0 || i >= left.size() ? -1 : new ArrayList<>(left).get(i);
        }

        boolean minimal() {
            return !left.isEmpty() && staying.contains(now()) && nextShorter() == null;
        }

        int without(int i) {
            if (!left.contains(i)) {
                throw new IllegalArgumentException();
            }
            int before = left.size();
            left.removeAll(goingWith(i));
            return before - left.size();
        }

        boolean same(long other, int size) {
            return harbour(other, size).equals(parts);
        }

        int count(int what) {
            switch (what) {
                case 0: return parts.size();
                case 1: return left.size();
                case 2: return ofKind(5);
                case 3: return (int) parts.stream().filter(this::fitting).count();
                case 4: return staying.size();
                default: return what >= 10 && what <= 16 ? ofKind(what - 10) : -1;
            }
        }

        private int ofKind(int kind) {
            return (int) parts.stream().filter(p -> p.kind() == kind).count();
        }
    }
}
