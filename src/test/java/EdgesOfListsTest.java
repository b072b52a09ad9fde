/** Promises 12 to 15: for each sentence that names a boundary case a test of its own. */
public final class EdgesOfListsTest {
    public static void main(String[] args) {
        Due.test("12: the seed, of 64 bits", EdgesOfListsTest::seedsAtTheEnds);
        Due.test("12: the seed's highest 31 bits", EdgesOfListsTest::highestBits);
        Due.test("12: for k from n - 1 down to 1, n is 1 or 2", EdgesOfListsTest::samplesOfFewPairs);
        Due.test("12: .. and n is the greatest", EdgesOfListsTest::samplesOfMostPairs);
        Due.test("12: the run stays as it was", EdgesOfListsTest::samplesChangeNothing);
        Due.test("12: NONE if there is none such", EdgesOfListsTest::sampleThatIsNotThere);
        Due.test("13: 0 if there is none such", EdgesOfListsTest::noneThatIsNotThere);
        Due.test("13: 0 if there was no run", EdgesOfListsTest::noneWithoutARun);
        Due.test("13: a run without PAIRS", EdgesOfListsTest::noneOfARunWithoutPairs);
        Due.test("13: of side 0", EdgesOfListsTest::noneOfSideZeroOnly);
        Due.test("13: in no PAIR of the latest run", EdgesOfListsTest::noneByTheLatestRun);
        Due.test("13: names that came since then, too", EdgesOfListsTest::noneOfNamesSince);
        Due.test("14: of side 1 if side is 1, else of side 0", EdgesOfListsTest::indexOfAnotherSide);
        Due.test("14: ArrayIndexOutOfBoundsException if there is none such", EdgesOfListsTest::indexThatIsNotThere);
        Due.test("14: .. without a run, or in one without PAIRS", EdgesOfListsTest::indexWithoutPairs);
        Due.test("15: 0 if there is none such, no such k", EdgesOfListsTest::bestOfNoPlace);
        Due.test("15: 0 if there is none such, no such name", EdgesOfListsTest::bestOfNoName);
        Due.test("15: 0 if there is none such, no such side", EdgesOfListsTest::bestOfNoSide);
        Due.test("15: 0 if there is none such, a name of the other side", EdgesOfListsTest::bestOfTheOtherSide);
        Due.test("15: 0 if there is none such, no run", EdgesOfListsTest::bestWithoutARun);
        Due.test("15: in PAIRS of the latest run, in their order", EdgesOfListsTest::bestInTheirOrder);
        Due.test("What it is: at most 512 calls", EdgesOfListsTest::theLastCallOfAll);
        Due.end();
    }

    private static void dueSample(Reconcile x, long seed, int... mixed) {
        for (int i = 0; i < mixed.length; i++) {
            Due.is("sample(" + seed + ", " + i + ")", x.sample(seed, i), mixed[i]);
        }
    }

    private static void seedsAtTheEnds() {
        Reconcile x = Given.sixPairs();
        x.run();
        dueSample(x, 0, 0, 2, 3, 1, 4, 5);
        dueSample(x, 1, 1, 5, 4, 0, 3, 2);
        dueSample(x, -1, 5, 0, 2, 1, 3, 4);
        dueSample(x, Long.MAX_VALUE, 3, 2, 5, 1, 4, 0);
        dueSample(x, Long.MIN_VALUE, 0, 4, 2, 1, 5, 3);
        dueSample(x, 1L << 32, 0, 4, 1, 3, 2, 5);
        dueSample(x, 1L << 33, 3, 5, 1, 2, 4, 0);
        dueSample(x, (1L << 33) + 1, 2, 4, 0, 5, 3, 1);
    }

    /** Seeds where the 32 or the 30 highest bits, or the lowest ones, change places otherwise. */
    private static void highestBits() {
        Reconcile two = Given.likeNames(0, 1, 1);
        two.run();
        dueSample(two, 30, 1, 0);
        dueSample(two, 42, 1, 0);
        dueSample(two, 49, 0, 1);
        dueSample(two, 61, 0, 1);
        Reconcile six = Given.sixPairs();
        six.run();
        dueSample(six, 2, 3, 1, 5, 0, 2, 4);
        dueSample(six, 12, 4, 1, 3, 2, 0, 5);
        dueSample(six, 30, 5, 2, 0, 1, 3, 4);
    }

    private static void samplesOfFewPairs() {
        Reconcile x = Given.onePair();
        x.run();
        long[] seeds = {0, 1, -1, Long.MIN_VALUE, Long.MAX_VALUE};
        for (long seed : seeds) {
            dueSample(x, seed, 0);
        }
        x.name(1);
        x.token(3, 1, 0);
        x.run();
        dueSample(x, 0, 0, 1);
        dueSample(x, 7, 1, 0);
        x.name(1);
        x.token(4, 1, 0);
        x.run();
        dueSample(x, 0, 1, 0, 2);
        dueSample(x, -1, 0, 2, 1);
        dueSample(x, Long.MIN_VALUE, 1, 2, 0);
    }

    private static void samplesOfMostPairs() {
        Reconcile x = Given.fiftyNames();
        x.run();
        int[][] due = {{0, 0, 611}, {0, 1, 151}, {0, 312, 101}, {0, 623, 168}, {0, 624, 557}, {1, 0, 183}, {1, 1, 327},
            {1, 312, 267}, {1, 623, 393}, {1, 624, 399}, {-1, 0, 374}, {-1, 1, 13}, {-1, 312, 248}, {-1, 623, 71},
            {-1, 624, 613}, {12345, 0, 191}, {12345, 1, 466}, {12345, 312, 220}, {12345, 623, 151}, {12345, 624, 139}};
        for (int[] d : due) {
            Due.is("sample(" + d[0] + ", " + d[1] + ")", x.sample(d[0], d[1]), d[2]);
        }
        boolean[] seen = new boolean[625];
        for (int i = 0; i < 300; i++) {
            int place = x.sample(99, i);
            Due.isTrue("sample(99, " + i + ") is a place", place >= 0 && place < 625);
            Due.isTrue("sample(99, " + i + ") is one by itself", !seen[place]);
            seen[place] = true;
        }
    }

    private static void samplesChangeNothing() {
        Reconcile x = Given.sixPairs();
        x.run();
        x.sample(1, 0);
        dueSample(x, 1, 1, 5, 4, 0, 3, 2);
        dueSample(x, 1, 1, 5, 4, 0, 3, 2);
        int[][] order = {{1, 5}, {2, 5}, {3, 4}, {1, 4}, {2, 4}, {3, 5}};
        for (int i = 0; i < order.length; i++) {
            Given.duePair("after samples", x, i, order[i][0], order[i][1]);
        }
    }

    private static void sampleThatIsNotThere() {
        Reconcile x = Given.sixPairs();
        Due.is("no run", x.sample(1, 0), Reconcile.NONE);
        x.run();
        for (int i : Given.noPlaces(6)) {
            Due.is("sample(1, " + i + ")", x.sample(1, i), Reconcile.NONE);
        }
        Reconcile y = Given.names(0, 1);
        y.run();
        Due.is("a run without pairs", y.sample(1, 0), Reconcile.NONE);
    }

    /** Names 2, 4 and 5 are of side 0 and in no pair. */
    private static Reconcile threeAlone() {
        Reconcile x = Given.names(1, 0, 0, 0, 0, 1);
        x.token(1, 1, 0);
        x.token(3, 1, 0);
        x.token(5, 2, 0);
        return x;
    }

    private static void noneThatIsNotThere() {
        Reconcile x = threeAlone();
        x.run();
        Due.is("none(0)", x.none(0), 2);
        Due.is("none(1)", x.none(1), 4);
        Due.is("none(2)", x.none(2), 5);
        for (int i : Given.noPlaces(3)) {
            Due.is("none(" + i + ")", x.none(i), 0);
        }
        Reconcile y = Given.onePair();
        y.run();
        Due.is("all are in pairs", y.none(0), 0);
    }

    private static void noneWithoutARun() {
        Reconcile x = threeAlone();
        for (int i = -1; i <= 3; i++) {
            Due.is("none(" + i + ")", x.none(i), 0);
        }
        x.run();
        Due.is("after a run", x.none(0), 2);
    }

    private static void noneOfARunWithoutPairs() {
        Reconcile x = Given.names(0, 1, 0);
        Due.is("run()", x.run(), 0);
        Due.is("none(0)", x.none(0), 1);
        Due.is("none(1)", x.none(1), 3);
        Due.is("none(2)", x.none(2), 0);
    }

    private static void noneOfSideZeroOnly() {
        Reconcile x = Given.names(1, 1);
        x.run();
        Due.is("side 1 only", x.none(0), 0);
        x.name(0);
        Due.is("one of side 0", x.none(0), 3);
        Due.is("no other", x.none(1), 0);
    }

    private static void noneByTheLatestRun() {
        Reconcile x = Given.likeNames(0, 1, 0);
        x.run();
        Due.is("both are in pairs", x.none(0), 0);
        x.join(1, 2);
        Due.is("joined since then", x.none(0), 0);
        x.run();
        Due.is("no pairs: none(0)", x.none(0), 1);
        Due.is("no pairs: none(1)", x.none(1), 3);
        x.undo(1);
        Due.is("undone since then", x.none(1), 3);
        x.run();
        Due.is("both again", x.none(0), 0);
    }

    private static void noneOfNamesSince() {
        Reconcile x = Given.onePair();
        x.run();
        x.name(0);
        Due.is("a name since then", x.none(0), 3);
        x.token(3, 1, 0);
        Due.is("with a token, since then", x.none(0), 3);
        x.name(1);
        x.name(0);
        Due.is("one more", x.none(1), 5);
        Due.is("no third", x.none(2), 0);
        x.run();
        Due.is("in the next run 3 has a pair", x.none(0), 5);
        Reconcile y = new Reconcile();
        y.run();
        y.name(0);
        Due.is("no names at the run", y.none(0), 1);
    }

    private static void indexOfAnotherSide() {
        Reconcile x = Given.onePair();
        x.run();
        Due.is("index(0, 0)", Given.index(x, 0, 0), 1);
        Due.is("index(0, 1)", Given.index(x, 0, 1), 2);
        for (int side : Given.noSides()) {
            Due.is("index(0, " + side + ")", Given.index(x, 0, side), 1);
        }
    }

    private static void indexThatIsNotThere() {
        Reconcile x = Given.sixPairs();
        x.run();
        Due.is("the last", Given.index(x, 5, 1), 5);
        int[] sides = {0, 1, 2, -1};
        for (int i : Given.noPlaces(6)) {
            for (int side : sides) {
                Due.is("index(" + i + ", " + side + ")", Given.index(x, i, side), Given.NO_PAIR);
            }
        }
    }

    private static void indexWithoutPairs() {
        Reconcile x = Given.onePair();
        Due.is("no run", Given.index(x, 0, 0), Given.NO_PAIR);
        x.run();
        x.join(1, 2);
        Due.is("joined since then", Given.index(x, 0, 0), 1);
        x.run();
        Due.is("no pairs", Given.index(x, 0, 0), Given.NO_PAIR);
    }

    private static void bestOfNoPlace() {
        Reconcile x = Given.sixPairs();
        x.run();
        Due.is("the last of 1", x.best(0, 1, 1), 4);
        for (int k : Given.noPlaces(2)) {
            Due.is("best(0, 1, " + k + ")", x.best(0, 1, k), 0);
        }
        Due.is("the last of 4", x.best(1, 4, 2), 2);
        for (int k : Given.noPlaces(3)) {
            Due.is("best(1, 4, " + k + ")", x.best(1, 4, k), 0);
        }
    }

    private static void bestOfNoName() {
        Reconcile x = Given.sixPairs();
        x.run();
        for (int name : Given.noNames(5)) {
            Due.is("best(0, " + name + ", 0)", x.best(0, name, 0), 0);
            Due.is("best(1, " + name + ", 0)", x.best(1, name, 0), 0);
        }
        x.name(0);
        x.token(6, 7, 0);
        Due.is("a name since the run", x.best(0, 6, 0), 0);
    }

    private static void bestOfNoSide() {
        Reconcile x = Given.sixPairs();
        x.run();
        for (int side : Given.noSides()) {
            for (int name = 1; name <= 5; name++) {
                Due.is("best(" + side + ", " + name + ", 0)", x.best(side, name, 0), 0);
            }
        }
    }

    private static void bestOfTheOtherSide() {
        Reconcile x = Given.sixPairs();
        x.run();
        for (int name = 1; name <= 5; name++) {
            int other = name <= 3 ? 1 : 0;
            Due.is("best(" + other + ", " + name + ", 0)", x.best(other, name, 0), 0);
        }
    }

    private static void bestWithoutARun() {
        Reconcile x = Given.sixPairs();
        Due.is("no run", x.best(0, 1, 0), 0);
        x.run();
        Due.is("a run", x.best(0, 1, 0), 5);
        x.join(1, 5);
        Due.is("joined since then", x.best(0, 1, 0), 5);
        x.run();
        Due.is("in the next run 1 has no pair", x.best(0, 1, 0), 0);
        Due.is("nor has 5", x.best(1, 5, 0), 0);
    }

    private static void bestInTheirOrder() {
        Reconcile x = Given.sixPairs();
        x.run();
        int[][] due = {{0, 1, 5, 4}, {0, 2, 5, 4}, {0, 3, 4, 5}, {1, 4, 3, 1, 2}, {1, 5, 1, 2, 3}};
        for (int[] d : due) {
            for (int k = 0; k + 2 < d.length; k++) {
                Due.is("best(" + d[0] + ", " + d[1] + ", " + k + ")", x.best(d[0], d[1], k), d[k + 2]);
            }
        }
    }

    /** 4 calls made the pair, so the last here is the 512th. */
    private static void theLastCallOfAll() {
        Reconcile x = Given.onePair();
        for (int call = 5; call <= 511; call++) {
            Due.is("run()", x.run(), 1);
        }
        Due.is("the 512th call", x.pair(0, 1), 2);
    }
}
