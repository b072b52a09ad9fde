/** Promises 10 and 11: for each sentence that names a boundary case a test of its own. */
public final class EdgesOfJoinsTest {
    public static void main(String[] args) {
        Due.test("10: the number of that, 1, 2, ..", EdgesOfJoinsTest::numbersOfJoins);
        Due.test("10: names need no tokens and no run", EdgesOfJoinsTest::joinWithoutTokens);
        Due.test("10: 0 if one is not there", EdgesOfJoinsTest::joinOfNoName);
        Due.test("10: 0 if one is of the other side", EdgesOfJoinsTest::joinOfTheOtherSide);
        Due.test("10: 0 if one is JOINED", EdgesOfJoinsTest::joinOfJoined);
        Due.test("10: 0 if there were 100", EdgesOfJoinsTest::joinWhenThereWereAHundred);
        Due.test("10: 100 at most, refused ones do not count", EdgesOfJoinsTest::refusedOnesDoNotCount);
        Due.test("10: 0, and nothing happens", EdgesOfJoinsTest::nothingHappens);
        Due.test("11: so no more, either name", EdgesOfJoinsTest::bothNamesAreFree);
        Due.test("11: 0 if there was none such", EdgesOfJoinsTest::undoOfNone);
        Due.test("11: 0 if it is undone", EdgesOfJoinsTest::undoOfUndone);
        Due.test("11: .. and its names are joined anew", EdgesOfJoinsTest::undoOfUndoneFreesNoOthers);
        Due.test("11: the hundredth too", EdgesOfJoinsTest::undoOfTheHundredth);
        Due.end();
    }

    private static void numbersOfJoins() {
        Reconcile x = Given.names(0, 1, 0, 1);
        Due.is("join(1, 4)", x.join(1, 4), 1);
        Due.is("join(3, 2)", x.join(3, 2), 2);
        Due.is("undo(1)", x.undo(1), 1);
        Due.is("undone ones count: join(1, 4)", x.join(1, 4), 3);
    }

    private static void joinWithoutTokens() {
        Reconcile x = Given.names(1, 0);
        Due.is("join(2, 1)", x.join(2, 1), 1);
    }

    private static void joinOfNoName() {
        Reconcile x = Given.names(0, 1);
        for (int name : Given.noNames(2)) {
            Due.is("join(" + name + ", 2)", x.join(name, 2), 0);
            Due.is("join(1, " + name + ")", x.join(1, name), 0);
            Due.is("join(" + name + ", " + name + ")", x.join(name, name), 0);
        }
        Due.is("join(1, 2)", x.join(1, 2), 1);
    }

    private static void joinOfTheOtherSide() {
        Reconcile x = Given.names(0, 1, 0, 1);
        int[][] wrong = {{2, 1}, {1, 3}, {2, 4}, {1, 1}, {2, 2}, {4, 3}};
        for (int[] w : wrong) {
            Due.is("join(" + w[0] + ", " + w[1] + ")", x.join(w[0], w[1]), 0);
        }
        Due.is("join(1, 2)", x.join(1, 2), 1);
        Due.is("join(3, 4)", x.join(3, 4), 2);
    }

    private static void joinOfJoined() {
        Reconcile x = Given.names(0, 1, 0, 1);
        x.join(1, 2);
        Due.is("side 0 is joined", x.join(1, 4), 0);
        Due.is("side 1 is joined", x.join(3, 2), 0);
        Due.is("both are joined", x.join(1, 2), 0);
        x.join(3, 4);
        Due.is("both are joined, each with another", x.join(1, 4), 0);
    }

    /** Joins and undoes the names 1 and 2 again and again; the last join stays. */
    private static Reconcile joinedTimes(int times) {
        Reconcile x = Given.likeNames(0, 1, 0, 1);
        for (int number = 1; number <= times; number++) {
            if (number > 1) {
                x.undo(number - 1);
            }
            Due.is("join " + number, x.join(1, 2), number);
        }
        return x;
    }

    private static void joinWhenThereWereAHundred() {
        Reconcile x = joinedTimes(99);
        Due.is("the hundredth", x.join(3, 4), 100);
        Due.is("undo(99)", x.undo(99), 1);
        Due.is("undo(100)", x.undo(100), 1);
        Due.is("no 101st: join(1, 2)", x.join(1, 2), 0);
        Due.is("no 101st: join(3, 4)", x.join(3, 4), 0);
        Due.is("there is no number 101", x.undo(101), 0);
        Due.is("nothing is joined", x.run(), 4);
    }

    private static void refusedOnesDoNotCount() {
        Reconcile x = Given.names(0, 1);
        for (int refused = 0; refused < 150; refused++) {
            Due.is("join(2, 1)", x.join(2, 1), 0);
        }
        Due.is("join(1, 2)", x.join(1, 2), 1);
        for (int refused = 0; refused < 150; refused++) {
            Due.is("join(1, 2) again", x.join(1, 2), 0);
        }
        x.undo(1);
        Due.is("join(1, 2) after all that", x.join(1, 2), 2);
    }

    private static void nothingHappens() {
        Reconcile x = Given.likeNames(0, 1, 0, 1);
        x.join(1, 2);
        x.join(1, 4);
        x.join(3, 2);
        x.join(3, 9);
        x.join(9, 4);
        x.join(4, 3);
        Due.is("3 and 4 are free: run()", x.run(), 1);
        Given.duePair("3 and 4 are free", x, 0, 3, 4);
        Due.is("there is no number 2", x.undo(2), 0);
        Due.is("no number is used up: join(3, 4)", x.join(3, 4), 2);
    }

    private static void bothNamesAreFree() {
        Reconcile x = Given.likeNames(0, 1, 0, 1);
        x.join(1, 2);
        x.join(3, 4);
        Due.is("undo(1)", x.undo(1), 1);
        Due.is("1 and 2 are free, 3 and 4 are not: run()", x.run(), 1);
        Given.duePair("1 and 2 are free", x, 0, 1, 2);
        Due.is("undo(2)", x.undo(2), 1);
        Due.is("with other ones: join(1, 4)", x.join(1, 4), 3);
        Due.is("with other ones: join(3, 2)", x.join(3, 2), 4);
    }

    private static void undoOfNone() {
        Reconcile x = Given.likeNames(0, 1, 0, 1);
        Due.is("none at all: undo(1)", x.undo(1), 0);
        x.join(1, 2);
        int[] wrong = {0, -1, 2, 100, 101, Given.LEAST, Given.GREATEST};
        for (int number : wrong) {
            Due.is("undo(" + number + ")", x.undo(number), 0);
        }
        Due.is("1 and 2 are joined still: run()", x.run(), 1);
        Given.duePair("1 and 2 are joined still", x, 0, 3, 4);
    }

    private static void undoOfUndone() {
        Reconcile x = Given.names(0, 1);
        x.join(1, 2);
        Due.is("undo(1)", x.undo(1), 1);
        Due.is("undo(1) again", x.undo(1), 0);
        Due.is("undo(1) once more", x.undo(1), 0);
    }

    private static void undoOfUndoneFreesNoOthers() {
        Reconcile x = Given.likeNames(0, 1, 0, 1);
        x.join(1, 2);
        x.undo(1);
        x.join(1, 4);
        Due.is("undo(1) again", x.undo(1), 0);
        Due.is("1 is joined still: run()", x.run(), 1);
        Given.duePair("1 is joined still", x, 0, 3, 2);
        Due.is("undo(2)", x.undo(2), 1);
        Due.is("all are free: run()", x.run(), 4);
    }

    private static void undoOfTheHundredth() {
        Reconcile x = joinedTimes(100);
        Due.is("1 and 2 are joined: run()", x.run(), 1);
        Due.is("undo(99) again", x.undo(99), 0);
        Due.is("undo(100)", x.undo(100), 1);
        Due.is("undo(100) again", x.undo(100), 0);
        Due.is("all are free: run()", x.run(), 4);
    }
}
