/** Each promise of the document by calls written out: ordinary inputs, edges and wrong inputs. */
public final class PromisesTest {
    private static final int[] ODD_SIDES = {-1, 2, 3, Integer.MIN_VALUE, Integer.MAX_VALUE};
    private static final int[] ODD_PLACES = {-1, 1000, Integer.MIN_VALUE, Integer.MAX_VALUE};
    private static final int NO_SCORE = -77;
    private static final int NO_PAIR = -78;

    public static void main(String[] args) {
        promise1NewObject();
        promise2Name();
        promise3Token();
        promise3TokensThatAreMany();
        promise4Date();
        promise4DatesAtTheEnds();
        promise5Weight();
        promise6WhichPairs();
        promise6HalfAtLeast();
        promise6Order();
        promise6MostPairs();
        promise7Pair();
        promise8Score();
        promise8ScoreNow();
        promise8NoScore();
        promise9Mutual();
        promise9AsItWasThen();
        promise10Join();
        promise10MostJoins();
        promise11Undo();
        promise12Sample();
        promise13None();
        promise14Index();
        promise15Best();
        latestRunStaysUntilTheNext();
        objectsAreApart();
        Due.end();
    }

    private static long score(Reconcile x, int i, int side) {
        try {
            return x.score(i, side);
        } catch (ArithmeticException e) {
            return e.getClass() == ArithmeticException.class ? NO_SCORE : NO_SCORE - 100;
        }
    }

    private static long index(Reconcile x, int i, int side) {
        try {
            return x.index(i, side);
        } catch (ArrayIndexOutOfBoundsException e) {
            return NO_PAIR;
        }
    }

    private static void dueScore(String what, Reconcile x, int i, long above, long below) {
        Due.is(what + ": score(" + i + ", 0)", score(x, i, 0), above);
        Due.is(what + ": score(" + i + ", 1)", score(x, i, 1), below);
    }

    private static void duePair(String what, Reconcile x, int i, int zero, int one) {
        Due.is(what + ": pair(" + i + ", 0)", x.pair(i, 0), zero);
        Due.is(what + ": pair(" + i + ", 1)", x.pair(i, 1), one);
    }

    private static void tokens(Reconcile x, int name, int kind, int... tokens) {
        for (int token : tokens) {
            x.token(name, token, kind);
        }
    }

    /** Name 1 of side 0 and name 2 of side 1, both with the token 1 of kind 0. */
    private static Reconcile onePair() {
        Reconcile x = new Reconcile();
        x.name(0);
        x.name(1);
        x.token(1, 1, 0);
        x.token(2, 1, 0);
        return x;
    }

    private static void promise1NewObject() {
        Reconcile x = new Reconcile();
        Due.is("new: pair", x.pair(0, 0), 0);
        Due.is("new: score", score(x, 0, 0), -1);
        Due.is("new: mutual", x.mutual(0), -1);
        Due.is("new: sample", x.sample(1, 0), -1);
        Due.is("new: none", x.none(0), 0);
        Due.is("new: index", index(x, 0, 0), NO_PAIR);
        Due.is("new: best", x.best(0, 1, 0), 0);
        Due.is("new: join", x.join(1, 2), 0);
        Due.is("new: undo", x.undo(1), 0);
        x.token(1, 1, 0);
        x.date(1, 1, 1);
        Due.is("new: run", x.run(), 0);
        Due.is("new: first name", x.name(1), 1);
    }

    private static void promise2Name() {
        Reconcile x = new Reconcile();
        for (int side : ODD_SIDES) {
            Due.is("name of side " + side, x.name(side), 0);
        }
        for (int number = 1; number <= 50; number++) {
            Due.is("name " + number, x.name(number % 2), number);
        }
        Due.is("name 51 of side 0", x.name(0), 0);
        Due.is("name 51 of side 1", x.name(1), 0);
        Due.is("sides as given", x.join(50, 49), 1);
        Due.is("no 51st name", x.join(2, 51), 0);

        Reconcile y = onePair();
        y.date(1, 1, 1);
        Due.is("new name of side 0", y.name(0), 3);
        Due.is("new name of side 1", y.name(1), 4);
        y.token(3, 1, 0);
        y.token(4, 1, 0);
        y.weight(0, 0, 1);
        Due.is("new names have no dates", y.run(), 0);
    }

    private static void promise3Token() {
        Reconcile x = onePair();
        x.token(1, 1, 0);
        x.token(2, 1, 0);
        x.run();
        dueScore("the very same token again", x, 0, 1, 1);
        x.token(1, 1, 3);
        x.token(1, 1, -1);
        x.token(1, 1, Integer.MIN_VALUE);
        x.token(1, 1, Integer.MAX_VALUE);
        dueScore("no such kind", x, 0, 1, 1);
        x.token(0, 5, 0);
        x.token(-1, 5, 0);
        x.token(3, 5, 0);
        x.token(Integer.MIN_VALUE, 5, 0);
        x.token(Integer.MAX_VALUE, 5, 0);
        dueScore("no such name", x, 0, 1, 1);
        Due.is("a name after that", x.name(1), 3);
        Due.is("a token before its name is lost", x.run(), 1);
        x.token(1, 1, 1);
        dueScore("the same int of another kind", x, 0, 1, 2);
        x.token(2, 1, 2);
        dueScore("ints of three kinds are different", x, 0, 1, 3);
        x.token(2, 1, 1);
        x.token(1, 1, 2);
        dueScore("all kinds shared", x, 0, 1, 1);
    }

    private static void promise3TokensThatAreMany() {
        Reconcile x = new Reconcile();
        x.name(0);
        x.name(1);
        tokens(x, 1, 0, Integer.MIN_VALUE, -1, 0, 1, Integer.MAX_VALUE);
        tokens(x, 1, 2, 1, 2, 3, 4);
        tokens(x, 2, 0, Integer.MIN_VALUE, -1, 0, 1, Integer.MAX_VALUE);
        tokens(x, 2, 2, 1, 2, 3);
        Due.is("eight tokens: run", x.run(), 1);
        dueScore("the ninth token does not count", x, 0, 1, 1);
        x.token(2, 3, 2);
        x.token(2, 4, 2);
        dueScore("nor that of the other name", x, 0, 1, 1);
        Reconcile y = onePair();
        tokens(y, 1, 1, 2, 3, 4, 5, 6, 7, 8);
        tokens(y, 2, 2, 2, 3, 4, 5, 6, 7, 8);
        Due.is("fifteen different tokens: run", y.run(), 0);
        y.weight(1, 0, 1);
        y.weight(2, 0, 1);
        Due.is("eight tokens each, one that counts: run", y.run(), 1);
        y.weight(1, 1, 1);
        y.weight(2, 1, 1);
        dueScore("fifteen different tokens", y, 0, 1, 15);
    }

    private static void promise4Date() {
        Reconcile x = onePair();
        x.run();
        x.date(1, 5, 4);
        x.date(2, 5, 9);
        dueScore("only one has dates", x, 0, 1, 1);
        x.token(1, 2, 0);
        dueScore("a token more", x, 0, 1, 2);
        x.date(1, 1, 5);
        dueScore("a day in common at the end", x, 0, 2, 3);
        x.date(1, 1, 4);
        dueScore("no day in common: in place of those before", x, 0, 1, 3);
        x.date(1, 9, 9);
        dueScore("a day in common at the start", x, 0, 2, 3);
        x.date(1, 10, 12);
        dueScore("a day after", x, 0, 1, 3);
        x.date(1, 9, 8);
        dueScore("wrong dates change nothing", x, 0, 1, 3);
        x.date(1, 6, 7);
        dueScore("days inside", x, 0, 2, 3);
        x.date(1, 1, 20);
        dueScore("days around", x, 0, 2, 3);
        x.date(0, 100, 100);
        x.date(3, 100, 100);
        x.date(-1, 100, 100);
        x.date(Integer.MIN_VALUE, 100, 100);
        x.date(Integer.MAX_VALUE, 100, 100);
        dueScore("dates of no name", x, 0, 2, 3);
    }

    private static void promise4DatesAtTheEnds() {
        Reconcile x = onePair();
        x.run();
        x.token(1, 2, 0);
        x.date(1, Long.MIN_VALUE, Long.MIN_VALUE);
        x.date(2, Long.MAX_VALUE, Long.MAX_VALUE);
        dueScore("the first and the last day", x, 0, 1, 3);
        x.date(1, Long.MAX_VALUE, Long.MAX_VALUE);
        dueScore("the last day both", x, 0, 2, 3);
        x.date(1, Long.MIN_VALUE, Long.MAX_VALUE);
        dueScore("all days", x, 0, 2, 3);
        x.date(2, Long.MAX_VALUE, Long.MIN_VALUE);
        dueScore("the last before the first", x, 0, 2, 3);
        x.date(2, -1, 0);
        x.date(1, 0, 1);
        dueScore("day 0", x, 0, 2, 3);
    }

    private static void promise5Weight() {
        Reconcile x = onePair();
        x.token(1, 2, 1);
        x.run();
        dueScore("weights are 1 at first", x, 0, 1, 2);
        Due.is("weight(1, 100, 1)", x.weight(1, 100, 1), 1);
        dueScore("1 and 100", x, 0, 1, 101);
        Due.is("weight(1, 0, 10)", x.weight(1, 0, 10), 1);
        dueScore("1 and 0", x, 0, 1, 1);
        Due.is("weight(1, 1, 10)", x.weight(1, 1, 10), 1);
        dueScore("1 and 1/10", x, 0, 10, 11);
        long[][] wrong = {{1, -1, 1}, {1, 101, 1}, {1, 1, 0}, {1, 1, 11}, {1, 1, -1}, {4, 1, 1}, {-1, 1, 1},
            {1, Long.MIN_VALUE, 1}, {1, Long.MAX_VALUE, 1}, {1, 1, Long.MIN_VALUE}, {1, 1, Long.MAX_VALUE},
            {1, 1L << 32, 1}, {1, 1, (1L << 32) + 1}, {Integer.MIN_VALUE, 1, 1}, {Integer.MAX_VALUE, 1, 1}};
        for (long[] w : wrong) {
            Due.is("weight(" + w[0] + ", " + w[1] + ", " + w[2] + ")", x.weight((int) w[0], w[1], w[2]), 0);
            dueScore("the weight stays", x, 0, 10, 11);
        }
        Due.is("weight(0, 3, 7)", x.weight(0, 3, 7), 1);
        Due.is("weight(1, 5, 9)", x.weight(1, 5, 9), 1);
        dueScore("3/7 and 5/9", x, 0, 27, 62);
        x.token(1, 3, 2);
        Due.is("weight(2, 7, 8)", x.weight(2, 7, 8), 1);
        dueScore("7/8 more", x, 0, 216, 937);
        x.date(1, 1, 1);
        x.date(2, 1, 1);
        Due.is("weight(3, 2, 5)", x.weight(3, 2, 5), 1);
        dueScore("dates of 2/5", x, 0, 2088, 5693);
    }

    private static void promise6WhichPairs() {
        Reconcile x = new Reconcile();
        x.name(0);
        x.name(1);
        x.date(1, 1, 1);
        x.date(2, 1, 1);
        Due.is("dates alone make no pair", x.run(), 0);
        x.token(1, 1, 0);
        Due.is("one without tokens", x.run(), 0);
        x.weight(3, 100, 1);
        Due.is("one without tokens, dates of weight", x.run(), 0);
        x.token(2, 2, 0);
        Due.is("different tokens, dates of weight", x.run(), 1);
        dueScore("different tokens, dates of weight", x, 0, 50, 51);
        x.name(0);
        x.token(3, 1, 0);
        x.name(1);
        x.token(4, 1, 0);
        Due.is("names of one side make no pairs", x.run(), 3);
        duePair("first", x, 0, 1, 4);
        duePair("second", x, 1, 3, 4);
        duePair("third", x, 2, 1, 2);
        x.join(3, 2);
        Due.is("joined ones make no pairs", x.run(), 1);
        duePair("what is left", x, 0, 1, 4);
        Reconcile y = new Reconcile();
        y.name(1);
        y.name(0);
        y.token(1, 1, 0);
        y.token(2, 1, 0);
        Due.is("side 1 came first: run", y.run(), 1);
        duePair("side 1 came first", y, 0, 2, 1);
    }

    private static void promise6HalfAtLeast() {
        Reconcile x = onePair();
        x.token(1, 2, 1);
        Due.is("1/2 is enough", x.run(), 1);
        dueScore("1/2", x, 0, 1, 2);
        x.weight(0, 99, 10);
        x.weight(1, 100, 10);
        Due.is("99/199 is not enough", x.run(), 0);
        x.weight(1, 99, 10);
        Due.is("99/198 is enough", x.run(), 1);
        x.weight(0, 1, 3);
        x.weight(1, 3, 9);
        Due.is("1/3 and 3/9 are equal", x.run(), 1);
        x.weight(0, 0, 1);
        Due.is("0 is not enough", x.run(), 0);
        x.weight(1, 0, 1);
        Due.is("no score", x.run(), 0);
        x.date(1, 1, 1);
        x.date(2, 1, 1);
        Due.is("dates alone count", x.run(), 1);
        dueScore("dates alone count", x, 0, 1, 1);
    }

    /** Scores: 1 and 4: 1/2, 1 and 5: 1, 2 and 4: 1/2, 2 and 5: 1, 3 and 4: 1, 3 and 5: 1/2. */
    private static Reconcile sixPairs() {
        Reconcile x = new Reconcile();
        x.name(0);
        x.name(0);
        x.name(0);
        x.name(1);
        x.name(1);
        tokens(x, 1, 0, 7);
        tokens(x, 2, 0, 7);
        tokens(x, 3, 0, 7, 8);
        tokens(x, 4, 0, 8, 7);
        tokens(x, 5, 0, 7);
        return x;
    }

    private static void promise6Order() {
        Reconcile x = sixPairs();
        Due.is("six: run", x.run(), 6);
        int[][] order = {{1, 5}, {2, 5}, {3, 4}, {1, 4}, {2, 4}, {3, 5}};
        for (int i = 0; i < order.length; i++) {
            duePair("six", x, i, order[i][0], order[i][1]);
            dueScore("six", x, i, 1, i < 3 ? 1 : 2);
        }
        Reconcile y = onePair();
        y.name(1);
        y.name(0);
        tokens(y, 3, 0, 1);
        tokens(y, 4, 0, 1);
        tokens(y, 2, 1, 5, 6, 7);
        tokens(y, 1, 1, 5, 6, 7);
        tokens(y, 4, 1, 5, 6);
        Due.is("thirds and quarters: run", y.run(), 2);
        duePair("4/4", y, 0, 1, 2);
        duePair("3/4", y, 1, 4, 2);
        y.weight(1, 1, 10);
        Due.is("light kind 1: run", y.run(), 4);
        duePair("13/13", y, 0, 1, 2);
        duePair("12/13", y, 1, 4, 2);
        duePair("10/12", y, 2, 4, 3);
        duePair("10/13", y, 3, 1, 3);
        dueScore("10/12", y, 2, 5, 6);
    }

    private static void promise6MostPairs() {
        Reconcile x = new Reconcile();
        for (int n = 0; n < 50; n++) {
            x.name(n % 2);
            x.token(n + 1, 9, 2);
        }
        Due.is("625 pairs: run", x.run(), 625);
        for (int i = 0; i < 350; i++) {
            int place = i < 175 ? i : 625 - 350 + i;
            Due.is("625 pairs: pair", x.pair(place, i % 2), i % 2 == 0 ? 2 * (place / 25) + 1 : 2 * (place % 25) + 2);
        }
        Due.is("no 626th", x.pair(625, 0), 0);
        Due.is("mutual of the last", x.mutual(624), 1);
        Due.is("none", x.none(0), 0);
        Due.is("run again", x.run(), 625);
    }

    private static void promise7Pair() {
        Reconcile x = onePair();
        Due.is("no run yet", x.pair(0, 0), 0);
        x.run();
        duePair("the only pair", x, 0, 1, 2);
        for (int side : ODD_SIDES) {
            Due.is("pair of side " + side, x.pair(0, side), 0);
        }
        for (int place : ODD_PLACES) {
            Due.is("pair " + place, x.pair(place, 0), 0);
        }
        Due.is("pair 1", x.pair(1, 1), 0);
    }

    private static void promise8Score() {
        Reconcile x = onePair();
        Due.is("no run yet", score(x, 0, 0), -1);
        x.token(1, 2, 0);
        x.run();
        dueScore("a half", x, 0, 1, 2);
        for (int side : ODD_SIDES) {
            Due.is("side " + side + " is below the line", score(x, 0, side), 2);
        }
        for (int place : ODD_PLACES) {
            dueScore("no such pair", x, place, -1, -1);
        }
        dueScore("no such pair", x, 1, -1, -1);
        tokens(x, 1, 0, 3, 4);
        tokens(x, 2, 0, 2, 5, 6);
        dueScore("2/6 in its least terms", x, 0, 1, 3);
        x.weight(0, 100, 7);
        dueScore("one weight for all", x, 0, 1, 3);
    }

    private static void promise8ScoreNow() {
        Reconcile x = onePair();
        x.run();
        x.token(2, 2, 1);
        x.weight(0, 0, 5);
        dueScore("0 is 0 / 1", x, 0, 0, 1);
        x.weight(0, 100, 1);
        x.weight(1, 1, 7);
        dueScore("700/701", x, 0, 700, 701);
        Due.is("join", x.join(1, 2), 1);
        dueScore("joined ones have it still", x, 0, 700, 701);
        Due.is("run", x.run(), 0);
        dueScore("no pair in the latest run", x, 0, -1, -1);
    }

    private static void promise8NoScore() {
        Reconcile x = onePair();
        x.run();
        x.weight(0, 0, 1);
        dueScore("no score now", x, 0, NO_SCORE, NO_SCORE);
        Due.is("no score now, side 9", score(x, 0, 9), NO_SCORE);
        dueScore("no such pair comes first", x, 1, -1, -1);
        x.date(1, 1, 1);
        x.date(2, 2, 2);
        dueScore("dates apart", x, 0, 0, 1);
        x.weight(3, 0, 1);
        dueScore("dates of no weight", x, 0, NO_SCORE, NO_SCORE);
        x.weight(0, 1, 10);
        dueScore("a score again", x, 0, 1, 1);
    }

    private static void promise9Mutual() {
        Reconcile x = sixPairs();
        Due.is("no run yet", x.mutual(0), -1);
        x.run();
        int[] due = {1, 1, 1, 0, 0, 0};
        for (int i = 0; i < due.length; i++) {
            Due.is("six: mutual(" + i + ")", x.mutual(i), due[i]);
        }
        Due.is("six: mutual(6)", x.mutual(6), -1);
        for (int place : ODD_PLACES) {
            Due.is("mutual(" + place + ")", x.mutual(place), -1);
        }
        Reconcile y = new Reconcile();
        y.name(0);
        y.name(1);
        y.name(0);
        y.name(1);
        tokens(y, 1, 0, 1, 2);
        tokens(y, 2, 0, 1, 2);
        tokens(y, 3, 0, 5, 6);
        tokens(y, 4, 0, 5, 6, 7);
        Due.is("apart: run", y.run(), 2);
        Due.is("apart: the greater", y.mutual(0), 1);
        Due.is("apart: greater ones of others do not count", y.mutual(1), 1);
        Reconcile z = onePair();
        z.name(0);
        tokens(z, 3, 0, 1, 2);
        Due.is("one of side 1 with two: run", z.run(), 2);
        Due.is("its best", z.mutual(0), 1);
        Due.is("its other", z.mutual(1), 0);
    }

    private static void promise9AsItWasThen() {
        Reconcile x = onePair();
        x.name(1);
        tokens(x, 3, 0, 1, 2);
        x.run();
        tokens(x, 2, 0, 3, 4, 5);
        x.token(1, 2, 0);
        dueScore("now the less", x, 0, 1, 5);
        dueScore("now the greater", x, 1, 1, 1);
        Due.is("then the greater", x.mutual(0), 1);
        Due.is("then the less", x.mutual(1), 0);
        x.weight(0, 0, 1);
        Due.is("without a score now", x.mutual(0), 1);
        Due.is("nor this", x.mutual(1), 0);
        x.join(1, 2);
        Due.is("joined since", x.mutual(0), 1);
        Due.is("joined since, the other", x.mutual(1), 0);
    }

    private static void promise10Join() {
        Reconcile x = new Reconcile();
        x.name(0);
        x.name(0);
        x.name(1);
        x.name(1);
        int[][] wrong = {{3, 1}, {1, 2}, {3, 4}, {1, 1}, {3, 3}, {0, 3}, {1, 0}, {-1, 3}, {1, -1}, {5, 3}, {1, 5},
            {Integer.MIN_VALUE, 3}, {1, Integer.MAX_VALUE}};
        for (int[] w : wrong) {
            Due.is("join(" + w[0] + ", " + w[1] + ")", x.join(w[0], w[1]), 0);
        }
        Due.is("join(1, 4)", x.join(1, 4), 1);
        Due.is("1 is joined", x.join(1, 3), 0);
        Due.is("4 is joined", x.join(2, 4), 0);
        Due.is("both are joined", x.join(1, 4), 0);
        Due.is("join(2, 3)", x.join(2, 3), 2);
        Due.is("names without tokens or a run are joined too", x.undo(2), 1);
    }

    private static void promise10MostJoins() {
        Reconcile x = onePair();
        for (int number = 1; number <= 100; number++) {
            Due.is("join " + number, x.join(1, 2), number);
            if (number < 100) {
                Due.is("undo " + number, x.undo(number), 1);
            }
        }
        Due.is("the hundredth is joined", x.run(), 0);
        Due.is("undo 100", x.undo(100), 1);
        Due.is("no 101st", x.join(1, 2), 0);
        Due.is("nothing happened", x.run(), 1);
        Due.is("no undo of it", x.undo(101), 0);
    }

    private static void promise11Undo() {
        Reconcile x = new Reconcile();
        x.name(0);
        x.name(1);
        x.name(0);
        x.name(1);
        for (int n = 1; n <= 4; n++) {
            x.token(n, 1, 0);
        }
        x.join(1, 2);
        x.join(3, 4);
        Due.is("undo(0)", x.undo(0), 0);
        Due.is("undo(-1)", x.undo(-1), 0);
        Due.is("undo(3)", x.undo(3), 0);
        Due.is("undo least", x.undo(Integer.MIN_VALUE), 0);
        Due.is("undo greatest", x.undo(Integer.MAX_VALUE), 0);
        Due.is("all joined", x.run(), 0);
        Due.is("undo(1)", x.undo(1), 1);
        Due.is("undo(1) again", x.undo(1), 0);
        Due.is("1 and 2 are free", x.run(), 1);
        duePair("free", x, 0, 1, 2);
        Due.is("joined anew: a new number", x.join(1, 2), 3);
        Due.is("the old number is undone still", x.undo(1), 0);
        Due.is("and they are joined", x.run(), 0);
        Due.is("undo(3)", x.undo(3), 1);
        Due.is("undo(2)", x.undo(2), 1);
        Due.is("all are free", x.run(), 4);
    }

    private static void promise12Sample() {
        Reconcile x = sixPairs();
        Due.is("no run yet", x.sample(0, 0), -1);
        x.run();
        long[] seeds = {0, 1, 7, -1, Long.MAX_VALUE, Long.MIN_VALUE};
        int[][] mixed = {{0, 2, 3, 1, 4, 5}, {1, 5, 4, 0, 3, 2}, {0, 3, 5, 4, 1, 2}, {5, 0, 2, 1, 3, 4},
            {3, 2, 5, 1, 4, 0}, {0, 4, 2, 1, 5, 3}};
        for (int s = 0; s < seeds.length; s++) {
            for (int i = 0; i < 6; i++) {
                Due.is("sample(" + seeds[s] + ", " + i + ")", x.sample(seeds[s], i), mixed[s][i]);
            }
            Due.is("sample(" + seeds[s] + ", 6)", x.sample(seeds[s], 6), -1);
        }
        for (int place : ODD_PLACES) {
            Due.is("sample(0, " + place + ")", x.sample(0, place), -1);
        }
        duePair("the run stays as it was", x, 5, 3, 5);
        Reconcile y = onePair();
        y.run();
        Due.is("one pair", y.sample(5, 0), 0);
        Due.is("one pair, no second", y.sample(5, 1), -1);
    }

    private static void promise13None() {
        Reconcile x = new Reconcile();
        x.name(1);
        x.name(0);
        x.name(0);
        x.name(0);
        Due.is("no run yet", x.none(0), 0);
        x.token(1, 1, 0);
        x.token(3, 1, 0);
        x.run();
        Due.is("none(0)", x.none(0), 2);
        Due.is("none(1)", x.none(1), 4);
        Due.is("none(2)", x.none(2), 0);
        for (int place : ODD_PLACES) {
            Due.is("none(" + place + ")", x.none(place), 0);
        }
        x.name(1);
        Due.is("names of side 1 are not meant", x.none(2), 0);
        x.name(0);
        Due.is("names that came since", x.none(2), 6);
        x.token(2, 1, 0);
        Due.is("the run stays", x.none(0), 2);
        x.join(3, 1);
        Due.is("the run stays when they are joined", x.none(0), 2);
        x.run();
        Due.is("joined: none(0)", x.none(0), 2);
        Due.is("joined: none(1)", x.none(1), 3);
        x.undo(1);
        x.run();
        Due.is("undone: none(0)", x.none(0), 4);
        Due.is("undone: none(1)", x.none(1), 6);
        Due.is("undone: none(2)", x.none(2), 0);
    }

    private static void promise14Index() {
        Reconcile x = onePair();
        Due.is("no run yet", index(x, 0, 0), NO_PAIR);
        x.run();
        Due.is("index(0, 0)", index(x, 0, 0), 1);
        Due.is("index(0, 1)", index(x, 0, 1), 2);
        for (int side : ODD_SIDES) {
            Due.is("index(0, " + side + ")", index(x, 0, side), 1);
        }
        for (int place : ODD_PLACES) {
            Due.is("index(" + place + ", 0)", index(x, place, 0), NO_PAIR);
            Due.is("index(" + place + ", 1)", index(x, place, 1), NO_PAIR);
        }
        Due.is("index(1, 7)", index(x, 1, 7), NO_PAIR);
    }

    private static void promise15Best() {
        Reconcile x = sixPairs();
        Due.is("no run yet", x.best(0, 1, 0), 0);
        x.run();
        int[][] due = {{0, 1, 5, 4}, {0, 2, 5, 4}, {0, 3, 4, 5}, {1, 4, 3, 1, 2}, {1, 5, 1, 2, 3}};
        for (int[] d : due) {
            for (int k = 0; k + 2 < d.length; k++) {
                Due.is("best(" + d[0] + ", " + d[1] + ", " + k + ")", x.best(d[0], d[1], k), d[k + 2]);
            }
            Due.is("best past the last", x.best(d[0], d[1], d.length - 2), 0);
            Due.is("best of the other side", x.best(1 - d[0], d[1], 0), 0);
            for (int place : ODD_PLACES) {
                Due.is("best, k " + place, x.best(d[0], d[1], place), 0);
            }
            for (int side : ODD_SIDES) {
                Due.is("best, side " + side, x.best(side, d[1], 0), 0);
            }
        }
        int[] noNames = {0, -1, 6, Integer.MIN_VALUE, Integer.MAX_VALUE};
        for (int name : noNames) {
            Due.is("best of no name " + name, x.best(0, name, 0), 0);
            Due.is("best of no name " + name, x.best(1, name, 0), 0);
        }
    }

    private static void latestRunStaysUntilTheNext() {
        Reconcile x = sixPairs();
        x.run();
        x.token(1, 99, 1);
        x.token(1, 98, 1);
        x.token(1, 97, 1);
        x.join(2, 4);
        duePair("as it was", x, 0, 1, 5);
        duePair("as it was", x, 4, 2, 4);
        Due.is("as it was: best", x.best(0, 1, 0), 5);
        Due.is("as it was: sample", x.sample(1, 1), 5);
        Due.is("as it was: index", index(x, 5, 1), 5);
        Due.is("as it was: none", x.none(0), 0);
        Due.is("the next", x.run(), 1);
        duePair("the next", x, 0, 3, 5);
        duePair("the next has no more", x, 1, 0, 0);
        Due.is("the next: index", index(x, 1, 0), NO_PAIR);
        Due.is("the next: best", x.best(0, 1, 0), 0);
        Due.is("the next: none", x.none(1), 2);
        Due.is("the next: mutual", x.mutual(0), 1);
    }

    private static void objectsAreApart() {
        Reconcile x = onePair();
        Reconcile y = onePair();
        x.weight(0, 0, 1);
        x.join(1, 2);
        Due.is("apart: run", y.run(), 1);
        Due.is("apart: join", y.join(1, 2), 1);
        Due.is("apart: name", y.name(0), 3);
    }
}
