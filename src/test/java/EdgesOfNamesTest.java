/** Promises 1 to 5: for each sentence that names a boundary case a test of its own. */
public final class EdgesOfNamesTest {
    public static void main(String[] args) {
        Due.test("1: no names", EdgesOfNamesTest::newObjectHasNoNames);
        Due.test("1: no run", EdgesOfNamesTest::newObjectHasNoRun);
        Due.test("2: its number, 1 .. 50 as they come", EdgesOfNamesTest::numbersGoOverBothSides);
        Due.test("2: without tokens", EdgesOfNamesTest::newNameHasNoTokens);
        Due.test("2: without DATES", EdgesOfNamesTest::newNameHasNoDates);
        Due.test("2: 0 if there is no such side", EdgesOfNamesTest::nameOfNoSide);
        Due.test("2: 0 if there are 50", EdgesOfNamesTest::nameWhenThereAreFifty);
        Due.test("3: nothing happens if there is no such name", EdgesOfNamesTest::tokenOfNoName);
        Due.test("3: nothing happens if there is no such kind", EdgesOfNamesTest::tokenOfNoKind);
        Due.test("3: nothing happens if it has 8", EdgesOfNamesTest::tokenWhenItHasEight);
        Due.test("3: 8 of all kinds together", EdgesOfNamesTest::eightOfAllKinds);
        Due.test("3: nothing happens if it has that very one", EdgesOfNamesTest::thatVeryToken);
        Due.test("3: that very one takes none of the 8 places", EdgesOfNamesTest::thatVeryTokenTakesNoPlace);
        Due.test("3: a token of another kind is not that very one", EdgesOfNamesTest::sameIntOfAnotherKind);
        Due.test("Terms: a token is an int", EdgesOfNamesTest::tokensAtTheEnds);
        Due.test("4: in place of those before", EdgesOfNamesTest::datesInPlaceOfThoseBefore);
        Due.test("4: nothing happens if there is no such name", EdgesOfNamesTest::datesOfNoName);
        Due.test("4: nothing happens if the last day is before the first", EdgesOfNamesTest::lastDayBeforeTheFirst);
        Due.test("4: .. and there were none before", EdgesOfNamesTest::lastDayBeforeTheFirstAndNoneBefore);
        Due.test("4: the last day may be the first", EdgesOfNamesTest::oneDay);
        Due.test("4: days are longs", EdgesOfNamesTest::daysAtTheEnds);
        Due.test("5: 1 at first", EdgesOfNamesTest::weightsAtFirst);
        Due.test("5: kind 3 is that of dates", EdgesOfNamesTest::kindOfDates);
        Due.test("5: 0, and it stays, if there is no such kind", EdgesOfNamesTest::weightOfNoKind);
        Due.test("5: 0, and it stays, if up is not 0 .. 100", EdgesOfNamesTest::upOutside);
        Due.test("5: 0, and it stays, if down is not 1 .. 10", EdgesOfNamesTest::downOutside);
        Due.test("5: up is 0 or 100", EdgesOfNamesTest::upAtTheEnds);
        Due.test("5: down is 1 .. 10", EdgesOfNamesTest::everyDown);
        Due.end();
    }

    private static void newObjectHasNoNames() {
        Reconcile x = new Reconcile();
        Due.is("run()", x.run(), 0);
        Due.is("none(0)", x.none(0), 0);
        Due.is("join(1, 2)", x.join(1, 2), 0);
        Due.is("undo(1)", x.undo(1), 0);
        Due.is("name(1)", x.name(1), 1);
    }

    private static void newObjectHasNoRun() {
        Reconcile x = Given.likeNames(0, 1, 0);
        Due.is("pair(0, 0)", x.pair(0, 0), 0);
        Due.is("score(0, 0)", Given.score(x, 0, 0), -1);
        Due.is("mutual(0)", x.mutual(0), -1);
        Due.is("sample(0, 0)", x.sample(0, 0), -1);
        Due.is("none(0)", x.none(0), 0);
        Due.is("index(0, 0)", Given.index(x, 0, 0), Given.NO_PAIR);
        Due.is("best(0, 1, 0)", x.best(0, 1, 0), 0);
        Due.is("run()", x.run(), 2);
    }

    private static void numbersGoOverBothSides() {
        Reconcile x = new Reconcile();
        int[] sides = {1, 1, 0, 1, 0, 0};
        for (int n = 0; n < sides.length; n++) {
            Due.is("name(" + sides[n] + ")", x.name(sides[n]), n + 1);
        }
    }

    private static void newNameHasNoTokens() {
        Reconcile x = Given.onePair();
        x.name(0);
        x.name(1);
        Due.is("run()", x.run(), 1);
        Due.is("none(0)", x.none(0), 3);
        Given.duePair("those with tokens", x, 0, 1, 2);
    }

    private static void newNameHasNoDates() {
        Reconcile x = Given.onePair();
        x.date(1, 0, 0);
        x.date(2, 0, 0);
        x.name(0);
        x.token(3, 1, 0);
        x.weight(0, 0, 1);
        Due.is("only those with dates have a score: run()", x.run(), 1);
        Given.duePair("those with dates", x, 0, 1, 2);
    }

    private static void nameOfNoSide() {
        Reconcile x = Given.names(0);
        for (int side : Given.noSides()) {
            Due.is("name(" + side + ")", x.name(side), 0);
            Due.is("there is no name 2", x.join(1, 2), 0);
        }
        Due.is("no number is used up", x.name(1), 2);
    }

    private static void nameWhenThereAreFifty() {
        Reconcile x = new Reconcile();
        for (int number = 1; number <= 50; number++) {
            Due.is("name " + number, x.name(number % 2), number);
        }
        Due.is("name(0)", x.name(0), 0);
        Due.is("name(1)", x.name(1), 0);
        Due.is("name(2)", x.name(2), 0);
        Due.is("there is no name 51 of side 1", x.join(2, 51), 0);
        Due.is("there is no name 51 of side 0", x.join(51, 1), 0);
        Due.is("the first and the last are as they were", x.join(50, 1), 1);
    }

    private static void tokenOfNoName() {
        Reconcile x = Given.oneHalf();
        for (int name : Given.noNames(2)) {
            x.token(name, 5, 0);
            Given.dueScore("token(" + name + ", 5, 0)", x, 0, 1, 2);
        }
        x.name(1);
        Given.tokens(x, 3, 0, 1, 2);
        Due.is("run()", x.run(), 2);
        Given.duePair("the name that came later has no token 5", x, 0, 1, 3);
        Given.dueScore("the name that came later has no token 5", x, 0, 1, 1);
    }

    private static void tokenOfNoKind() {
        Reconcile x = Given.oneHalf();
        x.weight(3, 100, 1);
        int[] noKinds = {-1, 3, 4, Given.LEAST, Given.GREATEST};
        for (int kind : noKinds) {
            x.token(1, 5, kind);
            x.token(2, 6, kind);
            Given.dueScore("tokens of kind " + kind, x, 0, 1, 2);
        }
        Given.tokens(x, 2, 2, 1, 2, 3, 4, 5, 6, 7);
        Given.dueScore("they take no place", x, 0, 1, 9);
    }

    private static void tokenWhenItHasEight() {
        Reconcile x = Given.onePair();
        x.run();
        Given.tokens(x, 1, 0, 2, 3, 4, 5, 6, 7, 8);
        Given.tokens(x, 2, 0, 2, 3, 4, 5, 6, 7);
        Given.dueScore("eight and seven", x, 0, 7, 8);
        x.token(1, 9, 0);
        Given.dueScore("no ninth", x, 0, 7, 8);
        x.token(2, 9, 0);
        Given.dueScore("the eighth, which the other has not", x, 0, 7, 9);
        x.token(2, 8, 0);
        Given.dueScore("no ninth, which the other has", x, 0, 7, 9);
    }

    private static void eightOfAllKinds() {
        Reconcile x = Given.onePair();
        x.run();
        Given.tokens(x, 1, 0, 2, 3);
        Given.tokens(x, 1, 1, 1, 2, 3);
        Given.tokens(x, 1, 2, 1, 2);
        Given.dueScore("eight of three kinds", x, 0, 1, 8);
        for (int kind = 0; kind <= 2; kind++) {
            x.token(1, 9, kind);
            Given.dueScore("a ninth of kind " + kind, x, 0, 1, 8);
        }
    }

    private static void thatVeryToken() {
        Reconcile x = Given.oneHalf();
        x.token(1, 1, 0);
        Given.dueScore("the one in common again", x, 0, 1, 2);
        x.token(1, 2, 0);
        Given.dueScore("the other one again", x, 0, 1, 2);
        x.token(2, 1, 0);
        Given.dueScore("that of name 2 again", x, 0, 1, 2);
    }

    private static void thatVeryTokenTakesNoPlace() {
        Reconcile x = Given.oneHalf();
        for (int again = 0; again < 10; again++) {
            x.token(1, 1, 0);
        }
        Given.tokens(x, 1, 0, 3, 4, 5, 6, 7, 8);
        Given.dueScore("eight different ones", x, 0, 1, 8);
        x.token(1, 8, 0);
        Given.dueScore("the last again", x, 0, 1, 8);
    }

    private static void sameIntOfAnotherKind() {
        Reconcile x = Given.onePair();
        x.run();
        x.token(1, 1, 1);
        Given.dueScore("1 of kind 1 is a token more", x, 0, 1, 2);
        x.token(2, 1, 2);
        Given.dueScore("1 of kind 2 is not in common with it", x, 0, 1, 3);
        x.token(2, 1, 1);
        Given.dueScore("1 of kind 1 is", x, 0, 2, 3);
    }

    private static void tokensAtTheEnds() {
        Reconcile x = Given.names(0, 1);
        Given.tokens(x, 1, 0, Given.LEAST, -1, 0, Given.GREATEST);
        Given.tokens(x, 2, 0, Given.GREATEST, 0, Given.LEAST);
        Due.is("run()", x.run(), 1);
        Given.dueScore("three of four", x, 0, 3, 4);
    }

    private static void datesInPlaceOfThoseBefore() {
        Reconcile x = Given.oneHalf();
        x.date(1, 1, 5);
        x.date(2, 5, 9);
        Given.dueScore("a day in common", x, 0, 2, 3);
        x.date(1, 10, 20);
        Given.dueScore("days 1 to 5 are no more", x, 0, 1, 3);
        x.date(2, 20, 30);
        Given.dueScore("nor are 5 to 9", x, 0, 2, 3);
    }

    private static void datesOfNoName() {
        Reconcile x = Given.oneHalf();
        x.date(1, 1, 5);
        for (int name : Given.noNames(2)) {
            x.date(name, 7, 8);
            Given.dueScore("date(" + name + ", 7, 8)", x, 0, 1, 2);
        }
        x.date(2, 5, 6);
        Given.dueScore("1 to 5 and 5 to 6", x, 0, 2, 3);
        x.name(1);
        Given.tokens(x, 3, 0, 1, 2);
        Due.is("the name that came later has no dates", x.run(), 2);
        Given.duePair("it is alike", x, 0, 1, 3);
        Given.dueScore("it is alike", x, 0, 1, 1);
    }

    private static void lastDayBeforeTheFirst() {
        Reconcile x = Given.oneHalf();
        x.date(1, 5, 9);
        x.date(2, 9, 12);
        long[][] wrong = {{9, 8}, {1, 0}, {0, -1}, {Long.MAX_VALUE, Long.MIN_VALUE}, {Long.MIN_VALUE + 1, Long.MIN_VALUE},
            {Long.MAX_VALUE, Long.MAX_VALUE - 1}};
        for (long[] w : wrong) {
            x.date(1, w[0], w[1]);
            Given.dueScore("date(1, " + w[0] + ", " + w[1] + ")", x, 0, 2, 3);
        }
    }

    private static void lastDayBeforeTheFirstAndNoneBefore() {
        Reconcile x = Given.oneHalf();
        x.date(1, 5, 9);
        x.date(2, 9, 8);
        Given.dueScore("name 2 has no dates", x, 0, 1, 2);
    }

    private static void oneDay() {
        Reconcile x = Given.oneHalf();
        x.date(1, 5, 5);
        x.date(2, 5, 5);
        Given.dueScore("the same day", x, 0, 2, 3);
        x.date(2, 6, 6);
        Given.dueScore("the next day", x, 0, 1, 3);
        x.date(2, 4, 4);
        Given.dueScore("the day before", x, 0, 1, 3);
    }

    private static void daysAtTheEnds() {
        Reconcile x = Given.oneHalf();
        x.date(1, Long.MIN_VALUE, Long.MIN_VALUE);
        x.date(2, Long.MAX_VALUE, Long.MAX_VALUE);
        Given.dueScore("the least and the greatest day", x, 0, 1, 3);
        x.date(1, Long.MAX_VALUE, Long.MAX_VALUE);
        Given.dueScore("the greatest day both", x, 0, 2, 3);
        x.date(2, Long.MIN_VALUE, Long.MAX_VALUE - 1);
        Given.dueScore("all days but the greatest", x, 0, 1, 3);
        x.date(1, Long.MIN_VALUE, Long.MAX_VALUE);
        Given.dueScore("all days", x, 0, 2, 3);
        x.date(1, 1L << 32, 1L << 32);
        x.date(2, 0, 0);
        Given.dueScore("days of the same low bits", x, 0, 1, 3);
    }

    private static void weightsAtFirst() {
        Reconcile x = Given.onePair();
        x.run();
        x.token(1, 1, 1);
        x.token(2, 1, 2);
        Given.dueScore("one of each kind", x, 0, 1, 3);
        x.date(1, 1, 1);
        x.date(2, 1, 1);
        Given.dueScore("and dates", x, 0, 1, 2);
    }

    private static void kindOfDates() {
        Reconcile x = Given.oneHalf();
        x.date(1, 1, 1);
        x.date(2, 1, 1);
        Due.is("weight(3, 7, 10)", x.weight(3, 7, 10), 1);
        Given.dueScore("a day in common", x, 0, 17, 27);
        x.date(2, 2, 2);
        Given.dueScore("no day in common", x, 0, 10, 27);
        Due.is("weight(3, 0, 1)", x.weight(3, 0, 1), 1);
        Given.dueScore("dates of no weight", x, 0, 1, 2);
    }

    /** Every kind has a part in its score, so that a weight of any kind that changes shows. */
    private static Reconcile allKinds() {
        Reconcile x = Given.onePair();
        x.run();
        Given.tokens(x, 1, 0, 2, 3);
        Given.tokens(x, 1, 1, 1, 2);
        Given.tokens(x, 1, 2, 1, 2);
        x.date(1, 1, 1);
        x.date(2, 2, 2);
        x.weight(0, 1, 7);
        x.weight(1, 1, 3);
        x.weight(2, 1, 2);
        x.weight(3, 3, 4);
        return x;
    }

    private static void dueNoWeight(Reconcile x, int kind, long up, long down) {
        Due.is("weight(" + kind + ", " + up + ", " + down + ")", x.weight(kind, up, down), 0);
        Given.dueScore("the weights stay", x, 0, 12, 239);
    }

    private static void weightOfNoKind() {
        Reconcile x = allKinds();
        Given.dueScore("weights at first", x, 0, 12, 239);
        int[] noKinds = {-1, 4, 5, Given.LEAST, Given.GREATEST};
        for (int kind : noKinds) {
            dueNoWeight(x, kind, 5, 6);
        }
    }

    private static void upOutside() {
        Reconcile x = allKinds();
        long[] outside = {-1, 101, Long.MIN_VALUE, Long.MAX_VALUE, 1L << 32, (1L << 32) + 5, -100};
        for (long up : outside) {
            for (int kind = 0; kind <= 3; kind++) {
                dueNoWeight(x, kind, up, 1);
            }
        }
    }

    private static void downOutside() {
        Reconcile x = allKinds();
        long[] outside = {0, 11, -1, Long.MIN_VALUE, Long.MAX_VALUE, 1L << 32, (1L << 32) + 1, -10};
        for (long down : outside) {
            for (int kind = 0; kind <= 3; kind++) {
                dueNoWeight(x, kind, 1, down);
            }
        }
    }

    private static void upAtTheEnds() {
        Reconcile x = Given.onePair();
        x.run();
        x.token(1, 2, 1);
        Due.is("weight(1, 100, 1)", x.weight(1, 100, 1), 1);
        Given.dueScore("1 and 100", x, 0, 1, 101);
        Due.is("weight(1, 0, 1)", x.weight(1, 0, 1), 1);
        Given.dueScore("1 and 0", x, 0, 1, 1);
        Due.is("weight(0, 100, 10)", x.weight(0, 100, 10), 1);
        Due.is("weight(1, 1, 10)", x.weight(1, 1, 10), 1);
        Given.dueScore("10 and 1/10", x, 0, 100, 101);
    }

    private static void everyDown() {
        Reconcile x = Given.onePair();
        x.run();
        x.token(1, 2, 1);
        for (int down = 1; down <= 10; down++) {
            Due.is("weight(0, 1, " + down + ")", x.weight(0, 1, down), 1);
            Given.dueScore("1/" + down + " and 1", x, 0, 1, down + 1);
        }
    }
}
