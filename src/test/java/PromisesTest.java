/** Each promise by an ordinary use of it; the boundary cases have tests of their own, in the Edges tests. */
public final class PromisesTest {
    public static void main(String[] args) {
        Due.test("1: a new object, apart from others", PromisesTest::objectsAreApart);
        Due.test("2: name", PromisesTest::namesHaveTheirSides);
        Due.test("3: token", PromisesTest::tokensInCommonMakeNamesAlike);
        Due.test("4: date", PromisesTest::datesInCommonMakeNamesAlike);
        Due.test("5: weight", PromisesTest::weightsAreFractions);
        Due.test("6: run", PromisesTest::runListsPairsByScore);
        Due.test("6: run, when weights change", PromisesTest::runListsPairsByWeights);
        Due.test("7: pair", PromisesTest::pairsHaveTwoNames);
        Due.test("8: score", PromisesTest::scoreFollowsTheNames);
        Due.test("9: mutual", PromisesTest::bestOnesOfEachOther);
        Due.test("10: join", PromisesTest::joinedNamesLeaveTheRun);
        Due.test("11: undo", PromisesTest::undoneNamesComeBack);
        Due.test("12: sample", PromisesTest::samplesByASeed);
        Due.test("13: none", PromisesTest::namesWithoutPairs);
        Due.test("14: index", PromisesTest::indexIsAsPair);
        Due.test("15: best", PromisesTest::partnersOfAName);
        Due.test("7, 9, 12 to 15: the latest run stays until the next", PromisesTest::latestRunStays);
        Due.end();
    }

    private static void objectsAreApart() {
        Reconcile x = Given.onePair();
        Reconcile y = Given.onePair();
        x.weight(0, 0, 1);
        x.join(1, 2);
        x.name(0);
        Due.is("run()", y.run(), 1);
        Given.dueScore("of the other object", y, 0, 1, 1);
        Due.is("join(1, 2)", y.join(1, 2), 1);
        Due.is("name(0)", y.name(0), 3);
    }

    private static void namesHaveTheirSides() {
        Reconcile x = new Reconcile();
        Due.is("name(0)", x.name(0), 1);
        Due.is("name(1)", x.name(1), 2);
        Due.is("name(0)", x.name(0), 3);
        Due.is("3 is of side 0, 2 of side 1", x.join(3, 2), 1);
    }

    private static void tokensInCommonMakeNamesAlike() {
        Reconcile x = Given.names(0, 1);
        Given.tokens(x, 1, 0, 10, 11);
        Given.tokens(x, 1, 1, 12);
        Given.tokens(x, 2, 0, 10, 11);
        Given.tokens(x, 2, 2, 12);
        Due.is("run()", x.run(), 1);
        Given.dueScore("two of four", x, 0, 1, 2);
        x.token(2, 12, 1);
        Given.dueScore("three of four", x, 0, 3, 4);
    }

    private static void datesInCommonMakeNamesAlike() {
        Reconcile x = Given.onePair();
        x.token(1, 2, 0);
        x.token(2, 3, 0);
        Due.is("one of three: run()", x.run(), 0);
        x.date(1, 1900, 1950);
        x.date(2, 1940, 1990);
        Due.is("two of four: run()", x.run(), 1);
        x.date(2, 1960, 1990);
        Due.is("one of four: run()", x.run(), 0);
    }

    private static void weightsAreFractions() {
        Reconcile x = Given.onePair();
        x.run();
        x.token(1, 2, 1);
        Due.is("weight(0, 3, 7)", x.weight(0, 3, 7), 1);
        Due.is("weight(1, 5, 9)", x.weight(1, 5, 9), 1);
        Given.dueScore("3/7 and 5/9", x, 0, 27, 62);
        x.token(1, 3, 2);
        Due.is("weight(2, 7, 8)", x.weight(2, 7, 8), 1);
        Given.dueScore("7/8 more", x, 0, 216, 937);
        x.date(1, 1, 1);
        x.date(2, 1, 1);
        Due.is("weight(3, 2, 5)", x.weight(3, 2, 5), 1);
        Given.dueScore("dates of 2/5", x, 0, 2088, 5693);
    }

    private static void runListsPairsByScore() {
        Reconcile x = Given.sixPairs();
        Due.is("run()", x.run(), 6);
        int[][] order = {{1, 5}, {2, 5}, {3, 4}, {1, 4}, {2, 4}, {3, 5}};
        for (int i = 0; i < order.length; i++) {
            Given.duePair("six", x, i, order[i][0], order[i][1]);
            Given.dueScore("six", x, i, 1, i < 3 ? 1 : 2);
        }
    }

    private static void runListsPairsByWeights() {
        Reconcile x = Given.likeNames(0, 1, 1, 0);
        Given.tokens(x, 1, 1, 5, 6, 7);
        Given.tokens(x, 2, 1, 5, 6, 7);
        Given.tokens(x, 4, 1, 5, 6);
        Due.is("run()", x.run(), 2);
        Given.duePair("4/4", x, 0, 1, 2);
        Given.duePair("3/4", x, 1, 4, 2);
        x.weight(1, 1, 10);
        Due.is("light kind 1: run()", x.run(), 4);
        Given.duePair("13/13", x, 0, 1, 2);
        Given.duePair("12/13", x, 1, 4, 2);
        Given.duePair("10/12", x, 2, 4, 3);
        Given.duePair("10/13", x, 3, 1, 3);
        Given.dueScore("10/12", x, 2, 5, 6);
    }

    private static void pairsHaveTwoNames() {
        Reconcile x = Given.likeNames(1, 0);
        x.run();
        Due.is("pair(0, 0)", x.pair(0, 0), 2);
        Due.is("pair(0, 1)", x.pair(0, 1), 1);
    }

    private static void scoreFollowsTheNames() {
        Reconcile x = Given.onePair();
        x.run();
        Given.dueScore("all in common", x, 0, 1, 1);
        x.token(1, 2, 0);
        Given.dueScore("one of two", x, 0, 1, 2);
        x.weight(0, 100, 1);
        x.token(2, 9, 1);
        x.weight(1, 1, 7);
        Given.dueScore("700 of 1401", x, 0, 700, 1401);
    }

    private static void bestOnesOfEachOther() {
        Reconcile x = Given.sixPairs();
        x.run();
        int[] due = {1, 1, 1, 0, 0, 0};
        for (int i = 0; i < due.length; i++) {
            Due.is("mutual(" + i + ")", x.mutual(i), due[i]);
        }
    }

    private static void joinedNamesLeaveTheRun() {
        Reconcile x = Given.sixPairs();
        Due.is("join(2, 5)", x.join(2, 5), 1);
        Due.is("run()", x.run(), 2);
        Given.duePair("first", x, 0, 3, 4);
        Given.duePair("second", x, 1, 1, 4);
    }

    private static void undoneNamesComeBack() {
        Reconcile x = Given.sixPairs();
        x.join(2, 5);
        x.join(3, 4);
        Due.is("all but 1: run()", x.run(), 0);
        Due.is("undo(1)", x.undo(1), 1);
        Due.is("all but 3 and 4: run()", x.run(), 2);
        Due.is("undo(2)", x.undo(2), 1);
        Due.is("all: run()", x.run(), 6);
    }

    private static void samplesByASeed() {
        Reconcile x = Given.sixPairs();
        x.run();
        int[] mixed = {0, 3, 5, 4, 1, 2};
        for (int i = 0; i < mixed.length; i++) {
            Due.is("sample(7, " + i + ")", x.sample(7, i), mixed[i]);
        }
    }

    private static void namesWithoutPairs() {
        Reconcile x = Given.likeNames(0, 0, 0, 1);
        Given.tokens(x, 2, 1, 5, 6);
        x.run();
        Due.is("none(0)", x.none(0), 2);
        Due.is("none(1)", x.none(1), 0);
    }

    private static void indexIsAsPair() {
        Reconcile x = Given.sixPairs();
        x.run();
        for (int i = 0; i < 6; i++) {
            Due.is("index(" + i + ", 0)", Given.index(x, i, 0), x.pair(i, 0));
            Due.is("index(" + i + ", 1)", Given.index(x, i, 1), x.pair(i, 1));
        }
    }

    private static void partnersOfAName() {
        Reconcile x = Given.sixPairs();
        x.run();
        Due.is("best(0, 3, 0)", x.best(0, 3, 0), 4);
        Due.is("best(0, 3, 1)", x.best(0, 3, 1), 5);
        Due.is("best(1, 4, 0)", x.best(1, 4, 0), 3);
        Due.is("best(1, 4, 1)", x.best(1, 4, 1), 1);
        Due.is("best(1, 4, 2)", x.best(1, 4, 2), 2);
    }

    private static void latestRunStays() {
        Reconcile x = Given.sixPairs();
        x.run();
        Given.tokens(x, 1, 1, 97, 98, 99);
        x.join(2, 4);
        Given.duePair("as it was", x, 0, 1, 5);
        Given.duePair("as it was", x, 4, 2, 4);
        Due.is("as it was: mutual(0)", x.mutual(0), 1);
        Due.is("as it was: best(0, 1, 0)", x.best(0, 1, 0), 5);
        Due.is("as it was: sample(1, 1)", x.sample(1, 1), 5);
        Due.is("as it was: index(5, 1)", Given.index(x, 5, 1), 5);
        Due.is("as it was: none(0)", x.none(0), 0);
        Due.is("the next: run()", x.run(), 1);
        Given.duePair("the next", x, 0, 3, 5);
        Due.is("the next: mutual(0)", x.mutual(0), 1);
        Due.is("the next: best(0, 1, 0)", x.best(0, 1, 0), 0);
        Due.is("the next: index(1, 0)", Given.index(x, 1, 0), Given.NO_PAIR);
        Due.is("the next: none(1)", x.none(1), 2);
    }
}
