/** What tests begin with, and the calls that may throw, answered by numbers; no test by itself. */
final class Given {
    /** Answers in place of the two exceptions: no call of the face answers these. */
    static final int NO_SCORE = -77;
    static final int NO_PAIR = -78;
    static final int WRONG_EXCEPTION = -79;

    static final int LEAST = Integer.MIN_VALUE;
    static final int GREATEST = Integer.MAX_VALUE;

    private Given() {
    }

    static int[] noSides() {
        return new int[] {-1, 2, 3, LEAST, GREATEST};
    }

    /** Places that are not there where there are as many as count. */
    static int[] noPlaces(int count) {
        return new int[] {-1, count, count + 1, LEAST, GREATEST};
    }

    /** Numbers of names that are not there where there are as many as count. */
    static int[] noNames(int count) {
        return new int[] {0, -1, count + 1, LEAST, GREATEST};
    }

    static long score(Reconcile x, int i, int side) {
        try {
            return x.score(i, side);
        } catch (RuntimeException e) {
            return isThrownByCode(e, ArithmeticException.class, "/ by zero") ? NO_SCORE : WRONG_EXCEPTION;
        }
    }

    static long index(Reconcile x, int i, int side) {
        try {
            return x.index(i, side);
        } catch (RuntimeException e) {
            return isThrownByCode(e, ArrayIndexOutOfBoundsException.class, "Index ") ? NO_PAIR : WRONG_EXCEPTION;
        }
    }

    /** The machine's own exceptions are known by how their texts begin. */
    private static boolean isThrownByCode(RuntimeException e, Class<?> due, String machineText) {
        return e.getClass() == due && (e.getMessage() == null || !e.getMessage().startsWith(machineText));
    }

    static void dueScore(String what, Reconcile x, int i, long above, long below) {
        Due.is(what + ": score(" + i + ", 0)", score(x, i, 0), above);
        Due.is(what + ": score(" + i + ", 1)", score(x, i, 1), below);
    }

    static void duePair(String what, Reconcile x, int i, int zero, int one) {
        Due.is(what + ": pair(" + i + ", 0)", x.pair(i, 0), zero);
        Due.is(what + ": pair(" + i + ", 1)", x.pair(i, 1), one);
    }

    static void tokens(Reconcile x, int name, int kind, int... tokens) {
        for (int token : tokens) {
            x.token(name, token, kind);
        }
    }

    static Reconcile names(int... sides) {
        Reconcile x = new Reconcile();
        for (int side : sides) {
            x.name(side);
        }
        return x;
    }

    /** Names of these sides that all have the token 1 of kind 0. */
    static Reconcile likeNames(int... sides) {
        Reconcile x = names(sides);
        for (int number = 1; number <= sides.length; number++) {
            x.token(number, 1, 0);
        }
        return x;
    }

    /** Name 1 of side 0 and name 2 of side 1, both with the token 1 of kind 0. */
    static Reconcile onePair() {
        return likeNames(0, 1);
    }

    /** That pair after a run, its score 1/2 by a token more of name 1: what is added to it shows. */
    static Reconcile oneHalf() {
        Reconcile x = onePair();
        x.token(1, 2, 0);
        x.run();
        return x;
    }

    /** Scores: 1 and 4: 1/2, 1 and 5: 1, 2 and 4: 1/2, 2 and 5: 1, 3 and 4: 1, 3 and 5: 1/2. */
    static Reconcile sixPairs() {
        Reconcile x = names(0, 0, 0, 1, 1);
        tokens(x, 1, 0, 7);
        tokens(x, 2, 0, 7);
        tokens(x, 3, 0, 7, 8);
        tokens(x, 4, 0, 8, 7);
        tokens(x, 5, 0, 7);
        return x;
    }

    /** The greatest count of names, sides by turns from 0 on, all alike. */
    static Reconcile fiftyNames() {
        int[] sides = new int[50];
        for (int n = 0; n < sides.length; n++) {
            sides[n] = n % 2;
        }
        return likeNames(sides);
    }
}
