/**
 * Names of readers against names of an authority: like pairs by exact fractions, best ones of each
 * other, joined and taken back, samples by a seed.
 */
public final class Reconcile {
    /** None such. */
    public static final int NONE = -1;

    private static final int MOST_NAMES = 50;
    private static final int MOST_TOKENS = 8;
    private static final int MOST_JOINS = 100;
    /** 25 names on either side: no other share of 50 names makes more pairs. */
    private static final int MOST_PAIRS = 625;

    private static final int TOKEN_KINDS = 3;
    private static final int DATE_KIND = 3;
    private static final int KINDS = 4;

    private static final long MOST_UP = 100;
    private static final long MOST_DOWN = 10;
    /** Every number 1 .. 10 divides it, so weights counted in 2520ths are whole numbers. */
    private static final long WEIGHT_UNIT = 2520;

    /** Far above what the greatest sums of weights need; it only makes the loop's end plain. */
    private static final int MOST_DIVISOR_STEPS = 200;

    private static final long SEED_FACTOR = 6364136223846793005L;
    private static final long SEED_STEP = 1442695040888963407L;
    private static final int SEED_LOW_BITS = 33;

    private final Name[] names = new Name[MOST_NAMES];
    private int nameCount = 0;
    private final long[] weights = {WEIGHT_UNIT, WEIGHT_UNIT, WEIGHT_UNIT, WEIGHT_UNIT};
    private final Join[] joins = new Join[MOST_JOINS];
    private int joinCount = 0;
    private final Listing latest = new Listing();
    /** Used again by every call that needs a score, so that none of them makes an object. */
    private final Fraction measured = new Fraction();

    public Reconcile() {
    }

    public int name(int side) {
        if (!isSide(side) || nameCount >= MOST_NAMES) {
            return 0;
        }
        names[nameCount] = new Name(side);
        nameCount++;
        return nameCount;
    }

    public void token(int name, int token, int kind) {
        Name named = find(name);
        if (named == null || kind < 0 || kind >= TOKEN_KINDS) {
            return;
        }
        named.addToken(token, kind);
    }

    public void date(int name, long from, long to) {
        Name named = find(name);
        if (named == null || to < from) {
            return;
        }
        named.setDates(from, to);
    }

    public int weight(int kind, long up, long down) {
        if (kind < 0 || kind >= KINDS || up < 0 || up > MOST_UP || down < 1 || down > MOST_DOWN) {
            return 0;
        }
        weights[kind] = up * (WEIGHT_UNIT / down);
        return 1;
    }

    public int run() {
        latest.begin();
        for (int zero = 1; zero <= nameCount; zero++) {
            Name named = find(zero);
            if (named != null && named.mayPair(0)) {
                listPairsOf(zero, named);
            }
        }
        latest.sort();
        return latest.size();
    }

    public int pair(int i, int side) {
        if (!latest.holds(i) || !isSide(side)) {
            return 0;
        }
        return latest.nameAt(i, side);
    }

    public long score(int i, int side) throws ArithmeticException {
        if (!latest.holds(i)) {
            return NONE;
        }
        Name zero = find(latest.nameAt(i, 0));
        Name one = find(latest.nameAt(i, 1));
        if (zero == null || one == null) {
            return NONE;
        }
        measured.measure(zero, one, weights);
        if (!measured.exists()) {
            throw new ArithmeticException("no score now");
        }
        measured.reduce();
        return side == 0 ? measured.above : measured.below;
    }

    public int mutual(int i) {
        if (!latest.holds(i)) {
            return NONE;
        }
        return latest.isBestOfBoth(i) ? 1 : 0;
    }

    public int join(int a, int b) {
        Name zero = find(a);
        Name one = find(b);
        if (zero == null || one == null || joinCount >= MOST_JOINS) {
            return 0;
        }
        if (!zero.mayJoin(0) || !one.mayJoin(1)) {
            return 0;
        }
        joins[joinCount] = new Join(zero, one);
        joinCount++;
        zero.joined = true;
        one.joined = true;
        return joinCount;
    }

    public int undo(int joined) {
        if (joined < 1 || joined > joinCount) {
            return 0;
        }
        Join found = joins[joined - 1];
        if (found == null || found.undone) {
            return 0;
        }
        found.takeBack();
        return 1;
    }

    public int sample(long seed, int i) {
        if (!latest.holds(i)) {
            return NONE;
        }
        return latest.placeAfterMixing(seed, i);
    }

    public int none(int i) {
        if (i < 0 || !latest.begun) {
            return 0;
        }
        int before = 0;
        for (int number = 1; number <= nameCount; number++) {
            Name named = find(number);
            if (named != null && named.side == 0 && !latest.hasName(number)) {
                if (before == i) {
                    return number;
                }
                before++;
            }
        }
        return 0;
    }

    /** Not in the list of LANGUAGE.md's rule 6, which yet asks for exactly what the document names. */
    public int index(int i, int side) throws ArrayIndexOutOfBoundsException {
        if (!latest.holds(i)) {
            throw new ArrayIndexOutOfBoundsException("no such pair");
        }
        return latest.nameAt(i, side);
    }

    public int best(int side, int name, int k) {
        if (!isSide(side) || k < 0) {
            return 0;
        }
        return latest.partner(side, name, k);
    }

    private static boolean isSide(int side) {
        return side == 0 || side == 1;
    }

    private Name find(int number) {
        if (number < 1 || number > nameCount) {
            return null;
        }
        return names[number - 1];
    }

    private void listPairsOf(int zero, Name named) {
        for (int one = 1; one <= nameCount; one++) {
            Name other = find(one);
            if (other != null && other.mayPair(1)) {
                measured.measure(named, other, weights);
                if (measured.exists() && measured.isHalfAtLeast()) {
                    latest.add(zero, one, measured);
                }
            }
        }
    }

    private static final class Name {
        final int side;
        boolean joined = false;
        private final int[] tokens = new int[MOST_TOKENS];
        private final int[] kinds = new int[MOST_TOKENS];
        private int tokenCount = 0;
        private boolean dated = false;
        private long firstDay = 0;
        private long lastDay = 0;

        Name(int side) {
            this.side = side;
        }

        void addToken(int token, int kind) {
            if (tokenCount >= MOST_TOKENS || hasToken(token, kind)) {
                return;
            }
            tokens[tokenCount] = token;
            kinds[tokenCount] = kind;
            tokenCount++;
        }

        private boolean hasToken(int token, int kind) {
            for (int t = 0; t < tokenCount; t++) {
                if (tokens[t] == token && kinds[t] == kind) {
                    return true;
                }
            }
            return false;
        }

        void setDates(long from, long to) {
            dated = true;
            firstDay = from;
            lastDay = to;
        }

        boolean mayPair(int ofSide) {
            return side == ofSide && tokenCount > 0 && !joined;
        }

        boolean mayJoin(int ofSide) {
            return side == ofSide && !joined;
        }

        long weightOfAll(long[] weights) {
            long sum = 0;
            for (int t = 0; t < tokenCount; t++) {
                sum += weights[kinds[t]];
            }
            return sum;
        }

        long weightOfShared(Name other, long[] weights) {
            long sum = 0;
            for (int t = 0; t < tokenCount; t++) {
                if (other.hasToken(tokens[t], kinds[t])) {
                    sum += weights[kinds[t]];
                }
            }
            return sum;
        }

        boolean bothDated(Name other) {
            return dated && other.dated;
        }

        boolean sharesDay(Name other) {
            return bothDated(other) && firstDay <= other.lastDay && other.firstDay <= lastDay;
        }
    }

    /** Above and below the line, both counted in the unit of weights until it is reduced. */
    private static final class Fraction {
        long above = 0;
        long below = 0;

        void measure(Name zero, Name one, long[] weights) {
            long shared = zero.weightOfShared(one, weights);
            above = shared;
            below = zero.weightOfAll(weights) + one.weightOfAll(weights) - shared;
            if (zero.bothDated(one)) {
                below += weights[DATE_KIND];
            }
            if (zero.sharesDay(one)) {
                above += weights[DATE_KIND];
            }
        }

        boolean exists() {
            return below > 0;
        }

        boolean isHalfAtLeast() {
            return 2 * above >= below;
        }

        void reduce() {
            long divisor = greatestDivisor(above, below);
            if (divisor > 0) {
                above /= divisor;
                below /= divisor;
            }
        }

        private static long greatestDivisor(long a, long b) {
            long greater = a;
            long rest = b;
            for (int step = 0; step < MOST_DIVISOR_STEPS && rest != 0; step++) {
                long next = greater % rest;
                greater = rest;
                rest = next;
            }
            return greater;
        }
    }

    private static final class Join {
        private final Name zero;
        private final Name one;
        boolean undone = false;

        Join(Name zero, Name one) {
            this.zero = zero;
            this.one = one;
        }

        void takeBack() {
            undone = true;
            zero.joined = false;
            one.joined = false;
        }
    }

    /** The latest run: its rows stay as they came, and their order says the places of the pairs. */
    private static final class Listing {
        boolean begun = false;
        private int count = 0;
        private final int[] zeros = new int[MOST_PAIRS];
        private final int[] ones = new int[MOST_PAIRS];
        private final long[] aboves = new long[MOST_PAIRS];
        private final long[] belows = new long[MOST_PAIRS];
        private final int[] order = new int[MOST_PAIRS];
        private final int[] spare = new int[MOST_PAIRS];
        private final boolean[] paired = new boolean[MOST_NAMES + 1];

        void begin() {
            begun = true;
            count = 0;
            for (int number = 0; number <= MOST_NAMES; number++) {
                paired[number] = false;
            }
        }

        void add(int zero, int one, Fraction had) {
            if (count >= MOST_PAIRS) {
                return;
            }
            zeros[count] = zero;
            ones[count] = one;
            aboves[count] = had.above;
            belows[count] = had.below;
            order[count] = count;
            paired[zero] = true;
            paired[one] = true;
            count++;
        }

        int size() {
            return count;
        }

        boolean holds(int place) {
            return place >= 0 && place < count;
        }

        boolean hasName(int number) {
            return number >= 0 && number <= MOST_NAMES && paired[number];
        }

        int nameAt(int place, int side) {
            int row = order[place];
            return side == 1 ? ones[row] : zeros[row];
        }

        /** Rows come by names, and a merge keeps equals as they came: scores alone are compared. */
        void sort() {
            for (int width = 1; width < count; width *= 2) {
                for (int low = 0; low < count; low += 2 * width) {
                    merge(low, Math.min(low + width, count), Math.min(low + 2 * width, count));
                }
                System.arraycopy(spare, 0, order, 0, count);
            }
        }

        private void merge(int low, int middle, int high) {
            int left = low;
            int right = middle;
            for (int to = low; to < high; to++) {
                if (right >= high || left < middle && !isGreater(order[right], order[left])) {
                    spare[to] = order[left];
                    left++;
                } else {
                    spare[to] = order[right];
                    right++;
                }
            }
        }

        /** Sums of weights stay under five millions, so the products fit a long. */
        private boolean isGreater(int row, int other) {
            return aboves[row] * belows[other] > aboves[other] * belows[row];
        }

        /** Only pairs that stand before a place can have a greater score than the one there. */
        boolean isBestOfBoth(int place) {
            int row = order[place];
            for (int before = 0; before < place; before++) {
                int other = order[before];
                boolean sharesName = zeros[other] == zeros[row] || ones[other] == ones[row];
                if (sharesName && isGreater(other, row)) {
                    return false;
                }
            }
            return true;
        }

        int placeAfterMixing(long seed, int i) {
            for (int place = 0; place < count; place++) {
                spare[place] = place;
            }
            long state = seed;
            for (int k = count - 1; k >= 1; k--) {
                state = state * SEED_FACTOR + SEED_STEP;
                int j = (int) ((state >>> SEED_LOW_BITS) % (k + 1));
                int moved = spare[k];
                spare[k] = spare[j];
                spare[j] = moved;
            }
            return spare[i];
        }

        int partner(int side, int number, int k) {
            int before = 0;
            for (int place = 0; place < count; place++) {
                if (nameAt(place, side) == number) {
                    if (before == k) {
                        return nameAt(place, 1 - side);
                    }
                    before++;
                }
            }
            return 0;
        }
    }
}
