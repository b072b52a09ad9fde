/** Counts and prints the answers that are not as due; no test by itself. */
final class Due {
    private static int wrong = 0;
    private static int asked = 0;

    private Due() {
    }

    /** A test of one sentence: it is broken by a wrong answer, by an exception, and if it asks nothing. */
    static void test(String sentence, Runnable calls) {
        int wrongBefore = wrong;
        int askedBefore = asked;
        try {
            calls.run();
        } catch (RuntimeException e) {
            is("an exception, " + e, 1, 0);
        }
        isTrue("something is asked", asked > askedBefore);
        if (wrong > wrongBefore) {
            System.out.println("BROKEN: " + sentence);
        }
    }

    static void is(String call, long got, long want) {
        asked++;
        if (got != want) {
            wrong++;
            System.out.println(call + " answered " + got + ", due is " + want);
        }
    }

    static void isTrue(String what, boolean holds) {
        is(what, holds ? 1 : 0, 1);
    }

    static int wrong() {
        return wrong;
    }

    static void end() {
        System.out.println(asked + " answers asked, " + wrong + " not as due");
        if (wrong != 0 || asked == 0) {
            System.exit(1);
        }
    }
}
