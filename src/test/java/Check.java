/** What the tests share: each answer is held against the one that is due, and the wrong ones are printed. */
final class Check {
    interface Call {
        void run();
    }

    private static int wrong = 0;

    private Check() {
    }

    static void due(String call, long got, long want) {
        if (got != want) {
            fail(call + " answered " + got + ", due is " + want);
        }
    }

    static void due(String call, boolean got, boolean want) {
        if (got != want) {
            fail(call + " answered " + got + ", due is " + want);
        }
    }

    static void due(String call, String got, String want) {
        if (!got.equals(want)) {
            fail(call + " answered " + got + ", due is " + want);
        }
    }

    static void noSuch(String call, Call made) {
        thrown(call, made, IndexOutOfBoundsException.class);
    }

    static void outOfRange(String call, Call made) {
        thrown(call, made, IllegalArgumentException.class);
    }

    static void notNow(String call, Call made) {
        thrown(call, made, IllegalStateException.class);
    }

    // The class is compared exactly: what the machine throws by itself is often a class below the one that is due.
    static void thrown(String call, Call made, Class<?> want) {
        Class<?> got = null;
        try {
            made.run();
        } catch (RuntimeException e) {
            got = e.getClass();
        }
        if (got != want) {
            fail(call + " threw " + (got == null ? "nothing" : got.getSimpleName()) + ", due is " + want.getSimpleName());
        }
    }

    static void fail(String what) {
        wrong++;
        System.out.println("WRONG: " + what);
    }

    static void end() {
        System.out.println(wrong == 0 ? "all answers are as due" : wrong + " answers are not as due");
        if (wrong != 0) {
            System.exit(1);
        }
    }
}
