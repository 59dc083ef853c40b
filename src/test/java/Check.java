/** Counts the wrong answers of one test program. */
final class Check {
    static final Class<IndexOutOfBoundsException> NO_INDEX = IndexOutOfBoundsException.class;
    static final Class<IllegalArgumentException> NO_ARGUMENT = IllegalArgumentException.class;
    static final Class<IllegalStateException> NO_STATE = IllegalStateException.class;

    private static int asked;
    private static int wrong;
    private static String sentence = "";

    private Check() {
    }

    /** What is asked from now on is asked for this sentence of the document; a wrong answer tells it. */
    static void about(String words) {
        sentence = words;
    }

    static int asked() {
        return asked;
    }

    static void same(String call, long got, long due) {
        asked++;
        if (got != due) {
            tell(call + " answered " + got + ", due is " + due);
        }
    }

    static void sameDouble(String call, double got, double due) {
        asked++;
        if (Double.doubleToLongBits(got) != Double.doubleToLongBits(due)) {
            tell(call + " answered " + got + ", due is " + due);
        }
    }

    static void isTrue(String what, boolean holds) {
        asked++;
        if (!holds) {
            tell(what + " does not hold");
        }
    }

    /** The call must throw this very class, and change nothing. */
    static void refuses(String call, RemontoirClock clock, Class<? extends RuntimeException> due, Runnable body) {
        asked++;
        long before = clock.digest();
        Class<?> got = null;
        try {
            body.run();
        } catch (RuntimeException e) {
            got = e.getClass();
        }
        if (got != due) {
            tell(call + " threw " + got + ", due is " + due);
        }
        if (clock.digest() != before) {
            tell(call + " threw and changed something");
        }
    }

    static void type(RemontoirClock clock, String signs) {
        for (int i = 0; i < signs.length(); i++) {
            clock.append(signs.charAt(i));
        }
    }

    static void end() {
        System.out.println(asked + " asked, " + wrong + " wrong");
        if (wrong > 0 || asked == 0) {
            System.exit(1);
        }
    }

    private static void tell(String line) {
        wrong++;
        if (wrong <= 40) {
            System.out.println(sentence.isEmpty() ? line : line + " [" + sentence + "]");
        }
    }
}
