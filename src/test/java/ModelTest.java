import java.math.BigInteger;
import java.util.ArrayList;
import java.util.Collections;
import java.util.HashSet;
import java.util.List;
import java.util.Random;
import java.util.Set;

/** Many runs of calls, the same every time, against a model in the document's own words. */
public final class ModelTest {
    private static final int CALLS = 512;
    private static final int OBJECTS = 600;
    private static final long ARITHMETIC = Long.MIN_VALUE;
    private static final long ARRAY_INDEX = Long.MIN_VALUE + 1;
    private static final int[] ODD = {-1, Integer.MIN_VALUE, Integer.MAX_VALUE, 51, 101, 625, 4};

    private record Token(int token, int kind) {
    }

    private record Ratio(BigInteger up, BigInteger down) implements Comparable<Ratio> {
        static Ratio of(long up, long down) {
            return new Ratio(BigInteger.valueOf(up), BigInteger.valueOf(down)).least();
        }

        private Ratio least() {
            BigInteger divisor = up.gcd(down);
            return new Ratio(up.divide(divisor), down.divide(divisor));
        }

        Ratio plus(Ratio other) {
            return new Ratio(up.multiply(other.down).add(other.up.multiply(down)), down.multiply(other.down)).least();
        }

        Ratio times(long factor) {
            return new Ratio(up.multiply(BigInteger.valueOf(factor)), down).least();
        }

        /** null where there is 0 below the line. */
        Ratio over(Ratio other) {
            return other.up.signum() == 0 ? null : new Ratio(up.multiply(other.down), down.multiply(other.up)).least();
        }

        @Override
        public int compareTo(Ratio other) {
            return up.multiply(other.down).compareTo(other.up.multiply(down));
        }
    }

    private static final class Person {
        int side;
        Set<Token> tokens = new HashSet<>();
        long[] days = null;
    }

    private record Pair(int zero, int one, Ratio then) {
    }

    private record Joined(int zero, int one) {
    }

    private static final class Model {
        final List<Person> people = new ArrayList<>();
        final Ratio[] weights = {Ratio.of(1, 1), Ratio.of(1, 1), Ratio.of(1, 1), Ratio.of(1, 1)};
        final List<Joined> joins = new ArrayList<>();
        final Set<Integer> undone = new HashSet<>();
        List<Pair> latest = null;

        Person person(int number) {
            return number >= 1 && number <= people.size() ? people.get(number - 1) : null;
        }

        List<Pair> pairs() {
            return latest == null ? List.of() : latest;
        }

        Pair pairAt(int i) {
            return i >= 0 && i < pairs().size() ? pairs().get(i) : null;
        }

        boolean isJoined(int number) {
            for (int j = 0; j < joins.size(); j++) {
                Joined joined = joins.get(j);
                if (!undone.contains(j + 1) && (joined.zero == number || joined.one == number)) {
                    return true;
                }
            }
            return false;
        }

        Ratio fraction(int zero, int one) {
            Person a = person(zero);
            Person b = person(one);
            Ratio above = Ratio.of(0, 1);
            Ratio below = Ratio.of(0, 1);
            for (int kind = 0; kind <= 2; kind++) {
                final int k = kind;
                Set<Token> all = new HashSet<>(a.tokens);
                all.addAll(b.tokens);
                Set<Token> both = new HashSet<>(a.tokens);
                both.retainAll(b.tokens);
                below = below.plus(weights[k].times(all.stream().filter(t -> t.kind == k).count()));
                above = above.plus(weights[k].times(both.stream().filter(t -> t.kind == k).count()));
            }
            if (a.days != null && b.days != null) {
                below = below.plus(weights[3]);
                if (Math.max(a.days[0], b.days[0]) <= Math.min(a.days[1], b.days[1])) {
                    above = above.plus(weights[3]);
                }
            }
            return above.over(below);
        }

        long name(int side) {
            if (side != 0 && side != 1 || people.size() == 50) {
                return 0;
            }
            Person p = new Person();
            p.side = side;
            people.add(p);
            return people.size();
        }

        long token(int name, int token, int kind) {
            Person p = person(name);
            if (p != null && kind >= 0 && kind <= 2 && p.tokens.size() < 8) {
                p.tokens.add(new Token(token, kind));
            }
            return 0;
        }

        long date(int name, long from, long to) {
            Person p = person(name);
            if (p != null && from <= to) {
                p.days = new long[] {from, to};
            }
            return 0;
        }

        long weight(int kind, long up, long down) {
            if (kind < 0 || kind > 3 || up < 0 || up > 100 || down < 1 || down > 10) {
                return 0;
            }
            weights[kind] = Ratio.of(up, down);
            return 1;
        }

        long run() {
            List<Pair> found = new ArrayList<>();
            for (int a = 1; a <= people.size(); a++) {
                for (int b = 1; b <= people.size(); b++) {
                    if (person(a).side != 0 || person(b).side != 1 || isJoined(a) || isJoined(b)
                        || person(a).tokens.isEmpty() || person(b).tokens.isEmpty()) {
                        continue;
                    }
                    Ratio r = fraction(a, b);
                    if (r != null && r.compareTo(Ratio.of(1, 2)) >= 0) {
                        found.add(new Pair(a, b, r));
                    }
                }
            }
            Collections.shuffle(found, new Random(found.size()));
            found.sort((p, q) -> {
                int c = q.then.compareTo(p.then);
                c = c != 0 ? c : Integer.compare(p.zero, q.zero);
                return c != 0 ? c : Integer.compare(p.one, q.one);
            });
            latest = found;
            return found.size();
        }

        long pair(int i, int side) {
            Pair p = pairAt(i);
            return p == null ? 0 : side == 0 ? p.zero : side == 1 ? p.one : 0;
        }

        long score(int i, int side) {
            Pair p = pairAt(i);
            if (p == null) {
                return -1;
            }
            Ratio r = fraction(p.zero, p.one);
            return r == null ? ARITHMETIC : (side == 0 ? r.up : r.down).longValueExact();
        }

        long mutual(int i) {
            Pair p = pairAt(i);
            if (p == null) {
                return -1;
            }
            for (Pair q : pairs()) {
                if ((q.zero == p.zero || q.one == p.one) && q.then.compareTo(p.then) > 0) {
                    return 0;
                }
            }
            return 1;
        }

        long join(int a, int b) {
            if (person(a) == null || person(b) == null || person(a).side != 0 || person(b).side != 1
                || isJoined(a) || isJoined(b) || joins.size() == 100) {
                return 0;
            }
            joins.add(new Joined(a, b));
            return joins.size();
        }

        long undo(int joined) {
            return joined >= 1 && joined <= joins.size() && undone.add(joined) ? 1 : 0;
        }

        long sample(long seed, int i) {
            if (pairAt(i) == null) {
                return -1;
            }
            List<Integer> places = new ArrayList<>();
            for (int p = 0; p < pairs().size(); p++) {
                places.add(p);
            }
            BigInteger all = BigInteger.ONE.shiftLeft(64);
            BigInteger state = BigInteger.valueOf(seed).mod(all);
            for (int k = places.size() - 1; k >= 1; k--) {
                state = state.multiply(new BigInteger("6364136223846793005"))
                    .add(new BigInteger("1442695040888963407")).mod(all);
                Collections.swap(places, k, state.shiftRight(64 - 31).mod(BigInteger.valueOf(k + 1)).intValue());
            }
            return places.get(i);
        }

        long none(int i) {
            if (latest == null) {
                return 0;
            }
            List<Integer> alone = new ArrayList<>();
            for (int n = 1; n <= people.size(); n++) {
                final int number = n;
                if (person(n).side == 0 && latest.stream().noneMatch(p -> p.zero == number)) {
                    alone.add(n);
                }
            }
            return i >= 0 && i < alone.size() ? alone.get(i) : 0;
        }

        long index(int i, int side) {
            Pair p = pairAt(i);
            return p == null ? ARRAY_INDEX : side == 1 ? p.one : p.zero;
        }

        long best(int side, int name, int k) {
            List<Integer> others = new ArrayList<>();
            for (Pair p : pairs()) {
                if (side == 0 && p.zero == name) {
                    others.add(p.one);
                }
                if (side == 1 && p.one == name) {
                    others.add(p.zero);
                }
            }
            return k >= 0 && k < others.size() ? others.get(k) : 0;
        }
    }

    private final Random random;
    private final int pool;
    private final int mostNames;
    private final int kinds;
    private final boolean wild;
    private final Reconcile x = new Reconcile();
    private final Model m = new Model();

    private ModelTest(long seed) {
        random = new Random(seed);
        pool = 1 + random.nextInt(seed % 3 == 0 ? 12 : 4);
        mostNames = 2 + random.nextInt(60);
        kinds = 1 + random.nextInt(3);
        wild = random.nextInt(3) == 0;
    }

    public static void main(String[] args) {
        for (int seed = 0; seed < OBJECTS && Due.wrong() < 20; seed++) {
            new ModelTest(seed).play(seed);
        }
        Due.end();
    }

    private void play(int seed) {
        for (int c = 0; c < CALLS; c++) {
            int before = Due.wrong();
            oneCall(c);
            if (Due.wrong() != before) {
                System.out.println("in run " + seed + ", call " + c);
                return;
            }
        }
    }

    private int odd(int usual) {
        return random.nextInt(wild ? 12 : 60) == 0 ? ODD[random.nextInt(ODD.length)] : usual;
    }

    private int someName() {
        return odd(random.nextInt(m.people.size() + 1) + (random.nextInt(20) == 0 ? 1 : 0));
    }

    private int someSide() {
        return odd(random.nextInt(2));
    }

    private int somePlace() {
        int size = m.pairs().size();
        return odd(random.nextInt(3) == 0 ? random.nextInt(3) : random.nextInt(size + 1));
    }

    private long someDay() {
        long[] ends = {Long.MIN_VALUE, Long.MAX_VALUE, 0, -1};
        return random.nextInt(15) == 0 ? ends[random.nextInt(ends.length)] : random.nextInt(6);
    }

    private void oneCall(int c) {
        boolean early = c < 220;
        if (early && m.people.size() < mostNames && random.nextInt(3) == 0) {
            callName();
            return;
        }
        if (early && random.nextInt(2) == 0) {
            callToken();
            return;
        }
        switch (random.nextInt(20)) {
            case 0 -> callName();
            case 1 -> callToken();
            case 2 -> callDate();
            case 3 -> callWeight();
            case 4, 5 -> Due.is("run()", x.run(), m.run());
            case 6, 7 -> callPair();
            case 8, 9 -> callScore();
            case 10, 11 -> callMutual();
            case 12 -> callJoin();
            case 13, 14 -> callUndo();
            case 15 -> callSample();
            case 16, 17 -> callNone();
            case 18 -> callIndex();
            default -> callBest();
        }
    }

    private void callName() {
        int side = someSide();
        Due.is("name(" + side + ")", x.name(side), m.name(side));
    }

    private void callToken() {
        int name = someName();
        int token = random.nextInt(40) == 0 ? random.nextInt() : random.nextInt(pool);
        int kind = odd(random.nextInt(30) == 0 ? 3 : random.nextInt(kinds));
        x.token(name, token, kind);
        m.token(name, token, kind);
    }

    private void callDate() {
        int name = someName();
        long from = someDay();
        long to = random.nextInt(3) == 0 ? from : someDay();
        x.date(name, from, to);
        m.date(name, from, to);
    }

    private void callWeight() {
        int kind = odd(random.nextInt(4));
        long up = odd(random.nextInt(4) == 0 ? random.nextInt(103) - 1 : random.nextInt(4));
        long down = odd(random.nextInt(12));
        Due.is("weight(" + kind + ", " + up + ", " + down + ")", x.weight(kind, up, down), m.weight(kind, up, down));
    }

    private void callPair() {
        int i = somePlace();
        int side = someSide();
        Due.is("pair(" + i + ", " + side + ")", x.pair(i, side), m.pair(i, side));
    }

    private void callScore() {
        int i = somePlace();
        int side = someSide();
        long got;
        try {
            got = x.score(i, side);
        } catch (ArithmeticException e) {
            got = ARITHMETIC;
        }
        Due.is("score(" + i + ", " + side + ")", got, m.score(i, side));
    }

    private void callMutual() {
        int i = somePlace();
        Due.is("mutual(" + i + ")", x.mutual(i), m.mutual(i));
    }

    private void callJoin() {
        int a = someName();
        int b = someName();
        Due.is("join(" + a + ", " + b + ")", x.join(a, b), m.join(a, b));
    }

    private void callUndo() {
        int joined = odd(random.nextInt(m.joins.size() + 2));
        Due.is("undo(" + joined + ")", x.undo(joined), m.undo(joined));
    }

    private void callSample() {
        long seed = random.nextLong();
        int i = somePlace();
        Due.is("sample(" + seed + ", " + i + ")", x.sample(seed, i), m.sample(seed, i));
    }

    private void callNone() {
        int i = odd(random.nextInt(8) - 1);
        Due.is("none(" + i + ")", x.none(i), m.none(i));
    }

    private void callIndex() {
        int i = somePlace();
        int side = someSide();
        long got;
        try {
            got = x.index(i, side);
        } catch (ArrayIndexOutOfBoundsException e) {
            got = ARRAY_INDEX;
        }
        Due.is("index(" + i + ", " + side + ")", got, m.index(i, side));
    }

    private void callBest() {
        int side = someSide();
        int name = someName();
        int k = odd(random.nextInt(5));
        Due.is("best(" + side + ", " + name + ", " + k + ")", x.best(side, name, k), m.best(side, name, k));
    }
}
