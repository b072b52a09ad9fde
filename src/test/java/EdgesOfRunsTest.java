/** The terms SCORE and RUN and promises 6 to 9: for each sentence that names a boundary case a test of its own. */
public final class EdgesOfRunsTest {
    public static void main(String[] args) {
        Due.test("SCORE: how many different tokens of a kind", EdgesOfRunsTest::tokensOfAKindAreCounted);
        Due.test("SCORE: if both have DATES", EdgesOfRunsTest::datesOfOneOnly);
        Due.test("SCORE: DATES that have a day in common", EdgesOfRunsTest::daysInCommon);
        Due.test("SCORE: without anything below the line there is none", EdgesOfRunsTest::nothingBelowTheLine);
        Due.test("RUN: that have tokens", EdgesOfRunsTest::namesWithoutTokens);
        Due.test("RUN: of side 0 and of side 1", EdgesOfRunsTest::namesOfOneSide);
        Due.test("RUN: neither of which is JOINED", EdgesOfRunsTest::joinedNames);
        Due.test("RUN: if there is a SCORE", EdgesOfRunsTest::pairsWithoutAScore);
        Due.test("RUN: it is 1/2 at least, just 1/2", EdgesOfRunsTest::justAHalf);
        Due.test("RUN: it is 1/2 at least, a little less", EdgesOfRunsTest::lessThanAHalf);
        Due.test("RUN: it is 1/2 at least, as an exact fraction", EdgesOfRunsTest::anExactHalf);
        Due.test("RUN: by SCORE, the greatest first", EdgesOfRunsTest::scoresThatAreNear);
        Due.test("RUN: equal scores, by the name of side 0", EdgesOfRunsTest::equalScoresBySideZero);
        Due.test("RUN: equal scores, then by that of side 1", EdgesOfRunsTest::equalScoresBySideOne);
        Due.test("RUN: equal scores of other terms", EdgesOfRunsTest::equalScoresOfOtherTerms);
        Due.test("6: how many, none at all", EdgesOfRunsTest::runsWithoutPairs);
        Due.test("6: how many, the most there can be", EdgesOfRunsTest::mostPairs);
        Due.test("6: the latest run is in place of the one before", EdgesOfRunsTest::runInPlaceOfTheOneBefore);
        Due.test("7: 0 if there is none such", EdgesOfRunsTest::pairThatIsNotThere);
        Due.test("7: 0 if there is no such side", EdgesOfRunsTest::pairOfNoSide);
        Due.test("8: in its least terms", EdgesOfRunsTest::leastTerms);
        Due.test("8: .. of great numbers", EdgesOfRunsTest::greatTerms);
        Due.test("8: as it is now", EdgesOfRunsTest::scoreBelowAHalfNow);
        Due.test("8: side 0 what is above, else what is below", EdgesOfRunsTest::scoreOfAnotherSide);
        Due.test("8: 0 is 0 / 1", EdgesOfRunsTest::scoreOfZero);
        Due.test("8: NONE if there is none such", EdgesOfRunsTest::scoreThatIsNotThere);
        Due.test("8: ArithmeticException if there is no SCORE now", EdgesOfRunsTest::noScoreNow);
        Due.test("8: none such, where no pair has a SCORE now", EdgesOfRunsTest::noneSuchBeforeNoScore);
        Due.test("9: no PAIR of either name, that of side 0", EdgesOfRunsTest::greaterOfSideZero);
        Due.test("9: no PAIR of either name, that of side 1", EdgesOfRunsTest::greaterOfSideOne);
        Due.test("9: had a greater SCORE, not an equal one", EdgesOfRunsTest::equalOnesAreMutual);
        Due.test("9: than that had then", EdgesOfRunsTest::mutualThen);
        Due.test("9: NONE if there is none such", EdgesOfRunsTest::mutualThatIsNotThere);
        Due.end();
    }

    private static void tokensOfAKindAreCounted() {
        Reconcile x = Given.onePair();
        x.run();
        Given.tokens(x, 1, 0, 2, 3);
        Given.tokens(x, 2, 0, 3, 4);
        Given.tokens(x, 1, 1, 1, 2);
        Given.tokens(x, 2, 1, 2, 5);
        x.weight(1, 1, 2);
        Given.dueScore("2 of 4, and a half of 1 of 3", x, 0, 5, 11);
    }

    private static void datesOfOneOnly() {
        Reconcile x = Given.oneHalf();
        x.date(1, 1, 9);
        Given.dueScore("dates of side 0 only", x, 0, 1, 2);
        Reconcile y = Given.oneHalf();
        y.date(2, 1, 9);
        Given.dueScore("dates of side 1 only", y, 0, 1, 2);
        y.date(1, 1, 9);
        Given.dueScore("dates of both", y, 0, 2, 3);
    }

    private static void daysInCommon() {
        Reconcile x = Given.oneHalf();
        x.date(2, 5, 9);
        long[][] with = {{1, 5}, {9, 12}, {5, 9}, {6, 7}, {1, 20}, {5, 5}, {9, 9}, {Long.MIN_VALUE, 5}, {9, Long.MAX_VALUE}};
        for (long[] days : with) {
            x.date(1, days[0], days[1]);
            Given.dueScore("days " + days[0] + " to " + days[1], x, 0, 2, 3);
        }
        long[][] without = {{1, 4}, {10, 12}, {4, 4}, {10, 10}, {Long.MIN_VALUE, 4}, {10, Long.MAX_VALUE}};
        for (long[] days : without) {
            x.date(1, days[0], days[1]);
            Given.dueScore("days " + days[0] + " to " + days[1], x, 0, 1, 3);
        }
    }

    private static void nothingBelowTheLine() {
        Reconcile x = Given.onePair();
        x.run();
        x.weight(0, 0, 1);
        Given.dueScore("no weight", x, 0, Given.NO_SCORE, Given.NO_SCORE);
        x.token(1, 1, 1);
        Given.dueScore("a token of weight, of one alone", x, 0, 0, 1);
        x.weight(1, 0, 10);
        x.date(1, 1, 1);
        Given.dueScore("dates of one alone", x, 0, Given.NO_SCORE, Given.NO_SCORE);
        x.date(2, 2, 2);
        Given.dueScore("dates of both", x, 0, 0, 1);
        x.weight(3, 0, 1);
        Given.dueScore("dates of no weight", x, 0, Given.NO_SCORE, Given.NO_SCORE);
    }

    /** Dates weigh so much that names without tokens would be pairs by their score. */
    private static void namesWithoutTokens() {
        Reconcile x = Given.names(0, 1);
        x.weight(3, 100, 1);
        x.date(1, 1, 1);
        x.date(2, 1, 1);
        Due.is("none has tokens: run()", x.run(), 0);
        x.token(1, 1, 0);
        Due.is("side 0 has: run()", x.run(), 0);
        x.token(2, 2, 0);
        Due.is("both have: run()", x.run(), 1);
        Reconcile y = Given.names(0, 1);
        y.weight(3, 100, 1);
        y.date(1, 1, 1);
        y.date(2, 1, 1);
        y.token(2, 1, 0);
        Due.is("side 1 has: run()", y.run(), 0);
    }

    private static void namesOfOneSide() {
        Due.is("side 0 alone", Given.likeNames(0, 0, 0).run(), 0);
        Due.is("side 1 alone", Given.likeNames(1, 1, 1).run(), 0);
        Reconcile x = Given.likeNames(1, 0, 1);
        Due.is("side 1 came first: run()", x.run(), 2);
        Given.duePair("side 1 came first", x, 0, 2, 1);
        Given.duePair("side 1 came first", x, 1, 2, 3);
    }

    private static void joinedNames() {
        Reconcile x = Given.likeNames(0, 1, 0, 1);
        x.join(1, 4);
        Due.is("run()", x.run(), 1);
        Given.duePair("neither 1 nor 4", x, 0, 3, 2);
        x.join(3, 2);
        Due.is("all are joined: run()", x.run(), 0);
        x.undo(1);
        Due.is("1 and 4 are not: run()", x.run(), 1);
        Given.duePair("1 and 4 are not", x, 0, 1, 4);
    }

    private static void pairsWithoutAScore() {
        Reconcile x = Given.onePair();
        x.name(1);
        x.token(3, 1, 0);
        x.token(3, 1, 1);
        x.token(1, 1, 1);
        x.weight(0, 0, 1);
        Due.is("kind 1 alone counts: run()", x.run(), 1);
        Given.duePair("kind 1 alone counts", x, 0, 1, 3);
        x.weight(1, 0, 1);
        Due.is("nothing counts: run()", x.run(), 0);
    }

    private static void justAHalf() {
        Reconcile x = Given.onePair();
        x.token(1, 2, 0);
        Due.is("1/2: run()", x.run(), 1);
        Given.dueScore("1/2", x, 0, 1, 2);
        Given.tokens(x, 2, 0, 2, 3, 4);
        Due.is("2/4: run()", x.run(), 1);
        x.weight(0, 100, 9);
        Due.is("half of 400/9: run()", x.run(), 1);
        Given.dueScore("half of 400/9", x, 0, 1, 2);
    }

    private static void lessThanAHalf() {
        Reconcile x = Given.onePair();
        x.token(1, 1, 1);
        x.weight(0, 99, 10);
        x.weight(1, 100, 10);
        Due.is("99/199: run()", x.run(), 0);
        x.weight(0, 100, 10);
        Due.is("100/200: run()", x.run(), 1);
        x.weight(0, 100, 9);
        x.weight(1, 89, 8);
        Due.is("800/1601: run()", x.run(), 0);
        x.weight(0, 89, 8);
        x.weight(1, 100, 9);
        Due.is("801/1601: run()", x.run(), 1);
        Given.dueScore("801/1601", x, 0, 801, 1601);
    }

    /** In doubles three times 1/10 is more than 3/10, and the score a little less than a half. */
    private static void anExactHalf() {
        Reconcile x = Given.names(0, 1);
        Given.tokens(x, 1, 0, 1, 2, 3);
        x.token(1, 1, 1);
        x.token(2, 1, 1);
        x.weight(0, 1, 10);
        x.weight(1, 3, 10);
        Due.is("3/10 of 6/10: run()", x.run(), 1);
        Given.dueScore("3/10 of 6/10", x, 0, 1, 2);
        Reconcile y = Given.onePair();
        y.token(1, 1, 1);
        y.weight(0, 1, 3);
        y.weight(1, 3, 9);
        Due.is("1/3 of 1/3 and 3/9: run()", y.run(), 1);
    }

    /** The score of 1 and 2 is 5157/6107, that of 1 and 3 greater by less than a millionth. */
    private static void scoresThatAreNear() {
        Reconcile x = Given.names(0, 1, 1);
        for (int name = 1; name <= 3; name++) {
            Given.tokens(x, name, 0, 1, 2, 3);
            Given.tokens(x, name, 2, 1, 2);
        }
        x.token(1, 1, 1);
        x.token(3, 1, 1);
        x.token(3, 4, 0);
        x.weight(0, 100, 8);
        x.weight(1, 95, 9);
        x.weight(2, 99, 10);
        Due.is("run()", x.run(), 2);
        Given.duePair("the greater", x, 0, 1, 3);
        Given.dueScore("the greater", x, 0, 6107, 7232);
        Given.duePair("the less", x, 1, 1, 2);
        Given.dueScore("the less", x, 1, 5157, 6107);
        Due.is("the greater is mutual", x.mutual(0), 1);
        Due.is("the less is not", x.mutual(1), 0);
    }

    private static void equalScoresBySideZero() {
        Reconcile x = Given.likeNames(1, 0, 0, 0);
        Due.is("run()", x.run(), 3);
        for (int i = 0; i < 3; i++) {
            Given.duePair("equal", x, i, i + 2, 1);
        }
    }

    private static void equalScoresBySideOne() {
        Reconcile x = Given.likeNames(1, 0, 1, 0, 1);
        Due.is("run()", x.run(), 6);
        int[][] order = {{2, 1}, {2, 3}, {2, 5}, {4, 1}, {4, 3}, {4, 5}};
        for (int i = 0; i < order.length; i++) {
            Given.duePair("equal", x, i, order[i][0], order[i][1]);
        }
    }

    /** 3/10 of 6/10 for 1 and 2, 1/10 of 2/10 for 3 and 4: both are a half, by other sums of tenths. */
    private static void equalScoresOfOtherTerms() {
        Reconcile x = Given.names(0, 1, 0, 1);
        Given.tokens(x, 1, 0, 1, 2, 3);
        x.token(1, 1, 1);
        x.token(2, 1, 1);
        Given.tokens(x, 3, 0, 8, 9);
        Given.tokens(x, 4, 0, 8);
        x.weight(0, 1, 10);
        x.weight(1, 3, 10);
        Due.is("run()", x.run(), 2);
        Given.duePair("equal", x, 0, 1, 2);
        Given.duePair("equal", x, 1, 3, 4);
        Given.dueScore("equal", x, 0, 1, 2);
        Given.dueScore("equal", x, 1, 1, 2);
    }

    private static void runsWithoutPairs() {
        Due.is("no names", new Reconcile().run(), 0);
        Due.is("one name", Given.likeNames(0).run(), 0);
        Reconcile x = Given.names(0, 1);
        x.token(1, 1, 0);
        x.token(2, 2, 0);
        Due.is("nothing in common: run()", x.run(), 0);
        Given.duePair("nothing in common", x, 0, 0, 0);
        Due.is("nothing in common: none(0)", x.none(0), 1);
    }

    private static void mostPairs() {
        Reconcile x = Given.fiftyNames();
        Due.is("run()", x.run(), 625);
        for (int i = 0; i < 625; i += 8) {
            Given.duePair("625 pairs", x, i, 2 * (i / 25) + 1, 2 * (i % 25) + 2);
        }
        Given.duePair("no 626th", x, 625, 0, 0);
        Due.is("mutual(624)", x.mutual(624), 1);
        Given.dueScore("the last", x, 624, 1, 1);
        Due.is("none(0)", x.none(0), 0);
        Due.is("best(0, 49, 24)", x.best(0, 49, 24), 50);
        Due.is("best(0, 49, 25)", x.best(0, 49, 25), 0);
        Due.is("run() again", x.run(), 625);
    }

    private static void runInPlaceOfTheOneBefore() {
        Reconcile x = Given.sixPairs();
        Due.is("run()", x.run(), 6);
        x.join(1, 5);
        Due.is("run() of fewer", x.run(), 2);
        Given.duePair("3 and 4", x, 0, 3, 4);
        Given.duePair("2 and 4", x, 1, 2, 4);
        Given.duePair("no third", x, 2, 0, 0);
        Due.is("best(1, 5, 0)", x.best(1, 5, 0), 0);
        Due.is("none(0)", x.none(0), 1);
        x.undo(1);
        Due.is("run() of more", x.run(), 6);
        Due.is("none(0)", x.none(0), 0);
        Given.duePair("the last again", x, 5, 3, 5);
    }

    private static void pairThatIsNotThere() {
        Reconcile x = Given.sixPairs();
        Given.duePair("no run", x, 0, 0, 0);
        x.run();
        Given.duePair("the last", x, 5, 3, 5);
        for (int i : Given.noPlaces(6)) {
            Given.duePair("none such", x, i, 0, 0);
        }
    }

    private static void pairOfNoSide() {
        Reconcile x = Given.onePair();
        x.run();
        for (int side : Given.noSides()) {
            Due.is("pair(0, " + side + ")", x.pair(0, side), 0);
            Due.is("pair(1, " + side + ")", x.pair(1, side), 0);
        }
    }

    private static void leastTerms() {
        Reconcile x = Given.oneHalf();
        Given.tokens(x, 1, 0, 3, 4);
        Given.tokens(x, 2, 0, 2, 5, 6);
        Given.dueScore("2/6", x, 0, 1, 3);
        x.weight(0, 100, 7);
        Given.dueScore("of another weight", x, 0, 1, 3);
        Given.tokens(x, 2, 0, 3, 4);
        Given.dueScore("4/6", x, 0, 2, 3);
        Given.tokens(x, 1, 0, 5, 6);
        Given.dueScore("6/6", x, 0, 1, 1);
    }

    private static void greatTerms() {
        Reconcile x = Given.onePair();
        x.run();
        Given.tokens(x, 1, 1, 1, 2, 3);
        Given.tokens(x, 1, 2, 1, 2, 3, 4);
        Given.tokens(x, 2, 1, 4, 5, 6, 7);
        Given.tokens(x, 2, 2, 5, 6, 7);
        x.date(1, 1, 1);
        x.date(2, 2, 2);
        x.weight(0, 97, 7);
        x.weight(1, 89, 9);
        x.weight(2, 99, 8);
        x.weight(3, 83, 5);
        Given.dueScore("fifteen tokens and dates", x, 0, 34920, 469487);
        x.date(1, 2, 2);
        Given.dueScore("a day in common", x, 0, 76752, 469487);
    }

    private static void scoreBelowAHalfNow() {
        Reconcile x = Given.oneHalf();
        x.token(2, 3, 0);
        Given.dueScore("less than a half now", x, 0, 1, 3);
        x.join(1, 2);
        Given.dueScore("joined now", x, 0, 1, 3);
        x.weight(0, 0, 1);
        x.date(1, 1, 1);
        x.date(2, 1, 1);
        Given.dueScore("dates alone now", x, 0, 1, 1);
    }

    private static void scoreOfAnotherSide() {
        Reconcile x = Given.oneHalf();
        x.token(1, 3, 0);
        for (int side : Given.noSides()) {
            Due.is("score(0, " + side + ")", Given.score(x, 0, side), 3);
        }
        Due.is("score(0, 1)", Given.score(x, 0, 1), 3);
        Due.is("score(0, 0)", Given.score(x, 0, 0), 1);
    }

    private static void scoreOfZero() {
        Reconcile x = Given.onePair();
        x.run();
        Given.tokens(x, 1, 1, 1, 2);
        x.weight(1, 100, 7);
        x.weight(0, 0, 7);
        Given.dueScore("0 of 200/7", x, 0, 0, 1);
        Due.is("score(0, 9)", Given.score(x, 0, 9), 1);
    }

    private static void scoreThatIsNotThere() {
        Reconcile x = Given.oneHalf();
        for (int i : Given.noPlaces(1)) {
            Given.dueScore("none such", x, i, Reconcile.NONE, Reconcile.NONE);
        }
        Given.dueScore("no run", Given.onePair(), 0, Reconcile.NONE, Reconcile.NONE);
        x.join(1, 2);
        x.run();
        Given.dueScore("a run without pairs", x, 0, Reconcile.NONE, Reconcile.NONE);
    }

    private static void noScoreNow() {
        Reconcile x = Given.oneHalf();
        x.weight(0, 0, 1);
        int[] sides = {0, 1, 2, -1, Given.LEAST, Given.GREATEST};
        for (int side : sides) {
            Due.is("score(0, " + side + ")", Given.score(x, 0, side), Given.NO_SCORE);
        }
        Due.is("the pair is there still", x.pair(0, 1), 2);
        x.weight(0, 1, 10);
        Given.dueScore("a score again", x, 0, 1, 2);
    }

    private static void noneSuchBeforeNoScore() {
        Reconcile x = Given.oneHalf();
        x.weight(0, 0, 1);
        for (int i : Given.noPlaces(1)) {
            Given.dueScore("none such", x, i, Reconcile.NONE, Reconcile.NONE);
        }
    }

    /** Name 1 with 2: 1/2, with 3: 1. */
    private static void greaterOfSideZero() {
        Reconcile x = Given.names(0, 1, 1);
        Given.tokens(x, 1, 0, 1, 2);
        Given.tokens(x, 2, 0, 1);
        Given.tokens(x, 3, 0, 1, 2);
        Due.is("run()", x.run(), 2);
        Due.is("1 and 3", x.mutual(0), 1);
        Due.is("1 and 2", x.mutual(1), 0);
    }

    /** Name 1 with 2: 1/2, with 3: 1; these are of side 0, and 4 and 5 have a pair of their own of 2/3. */
    private static void greaterOfSideOne() {
        Reconcile x = Given.names(1, 0, 0, 0, 1);
        Given.tokens(x, 1, 0, 1, 2);
        Given.tokens(x, 2, 0, 1);
        Given.tokens(x, 3, 0, 1, 2);
        Given.tokens(x, 4, 0, 7, 8);
        Given.tokens(x, 5, 0, 7, 8, 9);
        Due.is("run()", x.run(), 3);
        Due.is("3 and 1", x.mutual(0), 1);
        Due.is("4 and 5: greater ones of other names do not count", x.mutual(1), 1);
        Due.is("2 and 1", x.mutual(2), 0);
    }

    private static void equalOnesAreMutual() {
        Reconcile x = Given.likeNames(0, 1, 0, 1);
        Due.is("run()", x.run(), 4);
        for (int i = 0; i < 4; i++) {
            Due.is("mutual(" + i + ")", x.mutual(i), 1);
        }
    }

    private static void mutualThen() {
        Reconcile x = Given.names(0, 1, 1);
        Given.tokens(x, 1, 0, 1, 2);
        Given.tokens(x, 2, 0, 1);
        Given.tokens(x, 3, 0, 1, 2);
        x.run();
        x.token(2, 2, 0);
        Given.tokens(x, 3, 0, 3, 4, 5);
        Given.dueScore("1 and 2 now", x, 1, 1, 1);
        Given.dueScore("1 and 3 now", x, 0, 2, 5);
        Due.is("1 and 3 then", x.mutual(0), 1);
        Due.is("1 and 2 then", x.mutual(1), 0);
        x.weight(0, 0, 1);
        x.join(1, 3);
        Due.is("1 and 3, joined and without a score now", x.mutual(0), 1);
        Due.is("1 and 2, without a score now", x.mutual(1), 0);
    }

    private static void mutualThatIsNotThere() {
        Reconcile x = Given.sixPairs();
        Due.is("no run", x.mutual(0), Reconcile.NONE);
        x.run();
        Due.is("the last", x.mutual(5), 0);
        for (int i : Given.noPlaces(6)) {
            Due.is("mutual(" + i + ")", x.mutual(i), Reconcile.NONE);
        }
    }
}
