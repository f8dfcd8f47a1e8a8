import java.util.List;
import java.util.function.Supplier;

/**
 * Calls that must be refused: each is made on a new scheduler in a given state, must throw just what is due, and must
 * leave every later answer as it is without that call.
 */
final class Refused {
    interface Call {
        void on(Politecrawl crawl);
    }

    interface NumberedCall {
        void on(Politecrawl crawl, int number);
    }

    private final Supplier<Politecrawl> start;
    private final List<String> due;

    private Refused(Supplier<Politecrawl> start) {
        this.start = start;
        this.due = Story.of(start.get());
    }

    static Refused from(Supplier<Politecrawl> start) {
        return new Refused(start);
    }

    /** The numbers that lie outside a range: those next to it, and those where a sum or a product wraps around. */
    static int[] outside(int lowest, int highest) {
        return new int[] {lowest - 1, highest + 1, Integer.MIN_VALUE, Integer.MAX_VALUE};
    }

    /** A call for which there are hosts 0 to 5 alone. */
    static void noSuchHost(String name, NumberedCall call) {
        Refused busy = from(Make::busy);
        Refused bare = from(Politecrawl::new);
        for (int host : outside(0, 5)) {
            busy.index(name + " of host " + host, crawl -> call.on(crawl, host));
            bare.index(name + " of host " + host, crawl -> call.on(crawl, host));
        }
    }

    /** A call for which there are the pages found alone: none, some, or all that there can be. */
    static void noSuchPage(String name, NumberedCall call) {
        from(Politecrawl::new).noPageFrom(0, name, call);
        from(Make::onePage).noPageFrom(1, name, call);
        from(Make::busy).noPageFrom(Make.BUSY_PAGES, name, call);
        from(Make::allPages).noPageFrom(30, name, call);
    }

    private void noPageFrom(int pages, String name, NumberedCall call) {
        for (int page : outside(0, pages - 1)) {
            index(name + " of page " + page + " of " + pages, crawl -> call.on(crawl, page));
        }
    }

    Refused index(String name, Call call) {
        Politecrawl crawl = start.get();
        Check.throwsIndex(name, () -> call.on(crawl));
        return goesOnAsWithout(name, crawl);
    }

    Refused argument(String name, Call call) {
        Politecrawl crawl = start.get();
        Check.throwsArgument(name, () -> call.on(crawl));
        return goesOnAsWithout(name, crawl);
    }

    Refused state(String name, Call call) {
        Politecrawl crawl = start.get();
        Check.throwsState(name, () -> call.on(crawl));
        return goesOnAsWithout(name, crawl);
    }

    private Refused goesOnAsWithout(String name, Politecrawl crawl) {
        Story.same("behind the refused " + name, due, Story.of(crawl));
        return this;
    }
}
