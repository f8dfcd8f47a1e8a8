/** The bounds in promises 6 to 10: above each test the sentence of the document that it holds the class to. */
final class HostBoundsTest {
    private HostBoundsTest() {
    }

    /** "`host`: 0 to 5"; "Throws `IndexOutOfBoundsException` if there is no such host" */
    static void promise6HostsAreZeroToFive() {
        Check.due("setRest of host 0", 5, new Politecrawl().setRest(0, 7));
        Check.due("setRest of host 5", 5, new Politecrawl().setRest(5, 7));
        Refused.noSuchHost("setRest", (crawl, host) -> crawl.setRest(host, 7));
    }

    /** "`rest`: 1 to 100 ticks"; "Throws `IllegalArgumentException` if rest is out of range" */
    static void promise6RestsAreOneToAHundred() {
        for (int rest : new int[] {1, 100}) {
            Politecrawl crawl = Make.onePage();
            Check.due("setRest", 5, crawl.setRest(0, rest));
            Check.due("visit", rest, crawl.visit(0, Politecrawl.UNCHANGED));
            Check.due("setRest", rest, crawl.setRest(0, rest));
        }
        Refused busy = Refused.from(Make::busy);
        for (int rest : Refused.outside(1, 100)) {
            busy.argument("setRest(2, " + rest + ")", crawl -> crawl.setRest(2, rest));
        }
    }

    /** "[..] if several exceptions apply, the one that its throws clause names first is thrown." */
    static void promise6NoSuchHostGoesBeforeTheRest() {
        for (int rest : Refused.outside(1, 100)) {
            Refused.noSuchHost("setRest with " + rest, (crawl, host) -> crawl.setRest(host, rest));
        }
    }

    /** "The tick from which on it may be visited stays": when it has come, and when it has not. */
    static void promise6TheTickOfTheHostStays() {
        Politecrawl crawl = Make.onePage();
        crawl.setRest(0, 100);
        Check.due("openFrom at first", 0, crawl.openFrom(0));
        crawl.visit(0, Politecrawl.UNCHANGED);
        crawl.setRest(0, 1);
        Check.due("openFrom", 100, crawl.openFrom(0));
        crawl.pass(99);
        Check.fails("mayVisit at 99", crawl.mayVisit(0));
        crawl.pass(1);
        Check.holds("mayVisit at 100", crawl.mayVisit(0));
    }

    /** "`shortest`: 1 to 1000"; "Throws `IllegalArgumentException` if shortest or longest is out of range" */
    static void promise7ShortestIsOneToAThousand() {
        for (int shortest : new int[] {1, 1000}) {
            Politecrawl crawl = Make.onePage();
            crawl.setPaces(shortest, 5000);
            crawl.visit(0, Politecrawl.FAILED);
            Check.due("dueAt", shortest, crawl.dueAt(0));
        }
        Refused busy = Refused.from(Make::busy);
        for (int shortest : Refused.outside(1, 1000)) {
            busy.argument("setPaces(" + shortest + ", 5000)", crawl -> crawl.setPaces(shortest, 5000));
        }
    }

    /** "`longest`: shortest to 5000": the lower end. */
    static void promise7LongestIsAtLeastTheShortest() {
        Refused busy = Refused.from(Make::busy);
        for (int shortest : new int[] {1, 2, 500, 1000}) {
            Politecrawl crawl = Make.onePage();
            crawl.setPaces(shortest, shortest);
            crawl.visit(0, Politecrawl.UNCHANGED);
            Check.due("dueAt", shortest, crawl.dueAt(0));
            busy.argument("setPaces with a longest one less", refused -> refused.setPaces(shortest, shortest - 1));
            busy.argument("setPaces with a longest below", refused -> refused.setPaces(shortest, -shortest));
            busy.argument("setPaces with the least", refused -> refused.setPaces(shortest, Integer.MIN_VALUE));
        }
    }

    /** "`longest`: shortest to 5000": the upper end. */
    static void promise7LongestIsAtMostFiveThousand() {
        Politecrawl crawl = Make.onePage();
        crawl.setPaces(1000, 5000);
        for (int visits = 1; visits <= 4; visits++) {
            crawl.visit(0, Politecrawl.UNCHANGED);
            Check.due("dueAt", crawl.now() + Math.min(5000, 1000 * (visits + 2)), crawl.dueAt(0));
            Make.passTo(crawl, crawl.dueAt(0));
        }
        Refused busy = Refused.from(Make::busy);
        for (int shortest : new int[] {1, 1000}) {
            busy.argument("setPaces with 5001", refused -> refused.setPaces(shortest, 5001));
            busy.argument("setPaces with the most", refused -> refused.setPaces(shortest, Integer.MAX_VALUE));
        }
    }

    /** "[..] if shortest or longest is out of range": or both. */
    static void promise7BothOutOfRange() {
        Refused busy = Refused.from(Make::busy);
        for (int shortest : Refused.outside(1, 1000)) {
            for (int longest : new int[] {shortest, 0, -1, 5001, Integer.MIN_VALUE, Integer.MAX_VALUE}) {
                String name = "setPaces(" + shortest + ", " + longest + ")";
                busy.argument(name, crawl -> crawl.setPaces(shortest, longest));
            }
        }
    }

    /** "Ticks at which pages are due stay": when they have come, and when they have not. */
    static void promise7TicksAtWhichPagesAreDueStay() {
        Politecrawl crawl = Make.onePage();
        Make.page(crawl, 1, 5, "b");
        crawl.visit(0, Politecrawl.UNCHANGED);
        crawl.setPaces(1, 1);
        Check.due("dueAt", 30, crawl.dueAt(0));
        crawl.setPaces(1000, 5000);
        Check.due("dueAt", 30, crawl.dueAt(0));
        Check.due("dueAt of one not visited", 0, crawl.dueAt(1));
        crawl.pass(29);
        Check.fails("mayVisit at 29", crawl.mayVisit(0));
        crawl.pass(1);
        Check.holds("mayVisit at 30", crawl.mayVisit(0));
    }

    /** "The shortest pace is 10 at first, the longest 500." */
    static void promise7PacesAtFirst() {
        Politecrawl crawl = Make.onePage();
        crawl.visit(0, Politecrawl.FAILED);
        Check.due("dueAt behind a failure", 10, crawl.dueAt(0));
        for (int visits = 1; visits <= 49; visits++) {
            Make.passTo(crawl, crawl.dueAt(0));
            crawl.visit(0, Politecrawl.UNCHANGED);
            int pace = visits == 49 ? 500 : 10 * (visits + 2);
            Check.due("dueAt behind visit " + visits, crawl.now() + pace, crawl.dueAt(0));
        }
    }

    /** "`visits`: 1 to 100"; "Throws `IllegalArgumentException` if visits is out of range" */
    static void promise8BudgetsAreOneToAHundred() {
        Politecrawl crawl = new Politecrawl();
        Check.due("setBudget", 20, crawl.setBudget(1));
        Check.due("budgetLeft", 1, crawl.budgetLeft());
        Check.due("setBudget", 1, crawl.setBudget(100));
        Check.due("budgetLeft", 100, crawl.budgetLeft());
        Check.due("setBudget", 100, crawl.setBudget(20));
        Refused busy = Refused.from(Make::busy);
        for (int visits : Refused.outside(1, 100)) {
            busy.argument("setBudget(" + visits + ")", refused -> refused.setBudget(visits));
        }
    }

    /** "The budget is a number of visits [..] that may be made in each span": a hundred of them are made in one. */
    static void promise8AHundredVisitsInASpan() {
        Politecrawl crawl = new Politecrawl();
        crawl.setBudget(100);
        crawl.setPaces(1, 1);
        for (int page = 0; page < 2; page++) {
            crawl.find(page, 0);
            crawl.setRest(page, 1);
        }
        for (int made = 0; made < 100; made++) {
            crawl.visit(made % 2, Politecrawl.CHANGED);
            if (made % 2 == 1) {
                crawl.pass(1);
            }
        }
        Check.due("now", 50, crawl.now());
        Check.due("budgetLeft", 0, crawl.budgetLeft());
        Check.throwsState("the visit behind them", () -> crawl.visit(0, Politecrawl.CHANGED));
        Check.due("waiting", 50, crawl.waiting());
    }

    /** "Sets the budget, for the span that goes on, too": above, at and below what is used already. */
    static void promise8HoldsForTheSpanThatGoesOn() {
        Politecrawl crawl = Make.allPages();
        crawl.visit(0, Politecrawl.UNCHANGED);
        crawl.visit(1, Politecrawl.FAILED);
        crawl.visit(2, Politecrawl.GONE);
        int[] budgets = {4, 3, 2, 1, 100};
        int[] lefts = {1, 0, 0, 0, 97};
        for (int i = 0; i < budgets.length; i++) {
            crawl.setBudget(budgets[i]);
            Check.due("budgetLeft of " + budgets[i], lefts[i], crawl.budgetLeft());
            Check.due("mayVisit with " + lefts[i], lefts[i] > 0 ? 1 : 0, crawl.mayVisit(3) ? 1 : 0);
        }
    }

    /** "The budget is a number of visits, 20 at first." */
    static void promise8TwentyAtFirst() {
        Politecrawl crawl = Make.allPages();
        for (int host = 0; host < 6; host++) {
            crawl.setRest(host, 1);
        }
        for (int page = 0; page < 20; page++) {
            crawl.visit(page, Politecrawl.CHANGED);
            crawl.pass(1);
        }
        Check.throwsState("visit 21", () -> crawl.visit(20, Politecrawl.CHANGED));
        Check.due("setBudget", 20, crawl.setBudget(21));
        Check.due("visit 21", 21, crawl.visit(20, Politecrawl.CHANGED));
    }

    /** "`host`: 0 to 5"; "Throws `IndexOutOfBoundsException` if there is no such host" */
    static void promise9HostsAreZeroToFive() {
        Politecrawl crawl = Make.allPages();
        crawl.visit(0, Politecrawl.FAILED);
        Check.due("failures of host 0", 1, crawl.failures(0));
        Check.due("failures of host 5", 0, crawl.failures(5));
        crawl.visit(5, Politecrawl.FAILED);
        Check.due("failures of host 5", 1, crawl.failures(5));
        Refused.noSuchHost("failures", Politecrawl::failures);
    }

    /** "Returns how many failures a host has": from 0 on; the 5 of the power does not end them. */
    static void promise9FailuresGoOnAboveFive() {
        Politecrawl crawl = Make.onePage();
        crawl.setRest(0, 1);
        for (int failures = 0; failures <= 12; failures++) {
            Check.due("failures", failures, crawl.failures(0));
            crawl.visit(0, Politecrawl.FAILED);
            crawl.pass(100);
        }
        crawl.visit(0, Politecrawl.UNCHANGED);
        Check.due("failures", 0, crawl.failures(0));
    }

    /** "`host`: 0 to 5"; "Throws `IndexOutOfBoundsException` if there is no such host" */
    static void promise10HostsAreZeroToFive() {
        Politecrawl crawl = Make.allPages();
        crawl.visit(0, Politecrawl.UNCHANGED);
        Check.due("openFrom of host 0", 5, crawl.openFrom(0));
        Check.due("openFrom of host 5", 0, crawl.openFrom(5));
        crawl.visit(5, Politecrawl.UNCHANGED);
        Check.due("openFrom of host 5", 5, crawl.openFrom(5));
        Refused.noSuchHost("openFrom", Politecrawl::openFrom);
    }

    /** "Returns the tick, which may have passed." */
    static void promise10TheTickMayHavePassed() {
        Politecrawl crawl = Make.onePage();
        crawl.pass(10);
        Check.due("openFrom before a visit", 0, crawl.openFrom(0));
        crawl.visit(0, Politecrawl.UNCHANGED);
        for (int tick : new int[] {14, 15, 16, 100000}) {
            Make.passTo(crawl, tick);
            Check.due("openFrom at " + tick, 15, crawl.openFrom(0));
        }
    }

    /** "[..] the tick from which on a host may be visited": it may lie above the last tick. */
    static void promise10TheTickMayLieAboveTheLastOne() {
        Politecrawl crawl = Make.onePage();
        crawl.setRest(0, 100);
        Make.passTo(crawl, 100000);
        crawl.visit(0, Politecrawl.UNCHANGED);
        Check.due("openFrom", 100100, crawl.openFrom(0));
    }
}
