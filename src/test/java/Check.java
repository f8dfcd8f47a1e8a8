/** What the tests say of answers: each says which call was wrong, and ends the test. */
final class Check {
    interface Call {
        void make();
    }

    private Check() {
    }

    static void due(String call, long due, long got) {
        if (got != due) {
            throw new AssertionError(call + " answered " + got + ", due is " + due);
        }
    }

    static void holds(String what, boolean got) {
        if (!got) {
            throw new AssertionError(what + " does not hold");
        }
    }

    static void fails(String what, boolean got) {
        if (got) {
            throw new AssertionError(what + " holds, but should not");
        }
    }

    /** What each page, from page 0 on, is due to get of some visits. */
    static void sharesAre(Politecrawl crawl, int visits, int... due) {
        for (int page = 0; page < due.length; page++) {
            due("share(" + page + ", " + visits + ")", due[page], crawl.share(page, visits));
        }
    }

    static void throwsIndex(String call, Call made) {
        throwsOnly(call, IndexOutOfBoundsException.class, made);
    }

    static void throwsArgument(String call, Call made) {
        throwsOnly(call, IllegalArgumentException.class, made);
    }

    static void throwsState(String call, Call made) {
        throwsOnly(call, IllegalStateException.class, made);
    }

    private static void throwsOnly(String call, Class<?> due, Call made) {
        Class<?> got = null;
        try {
            made.make();
        } catch (RuntimeException thrown) {
            // The very class counts: what the machine throws by itself is a class below these.
            got = thrown.getClass();
        }
        if (got != due) {
            throw new AssertionError(call + " threw " + got + ", due is " + due);
        }
    }
}
