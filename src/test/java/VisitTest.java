/** Promises 18 to 24: visits and ticks. */
final class VisitTest {
    private VisitTest() {
    }

    private static void nextIs(Politecrawl crawl, int due) {
        Check.due("next", due, crawl.next());
        Check.due("nextByScan", due, crawl.nextByScan());
    }

    static void promises18And19GreatestPressingFirst() {
        Politecrawl crawl = new Politecrawl();
        Make.page(crawl, 0, 3, "a");
        crawl.pass(9);
        Make.page(crawl, 1, 4, "b");
        nextIs(crawl, 1);
        crawl.setRank(1, 3);
        nextIs(crawl, 0);
        crawl.setRank(1, 4);
        crawl.setRank(0, 0);
        nextIs(crawl, 1);
        crawl.setRank(0, 4);
        nextIs(crawl, 0);
    }

    static void promises18And19OfEqualPressingTheHighestRank() {
        for (int host = 0; host < 2; host++) {
            Politecrawl crawl = new Politecrawl();
            Make.page(crawl, 0, 3, "a");
            crawl.pass(10);
            Make.page(crawl, host, 4, "b");
            Make.page(crawl, 2, 3, "c");
            nextIs(crawl, 1);
            crawl.setRank(0, 5);
            nextIs(crawl, 0);
        }
    }

    static void promises18And19OfEqualRankTheLowest() {
        Politecrawl crawl = new Politecrawl();
        Make.page(crawl, 5, 2, "a");
        Make.page(crawl, 4, 2, "b");
        Make.page(crawl, 4, 2, "c");
        Make.page(crawl, 0, 2, "d");
        nextIs(crawl, 0);
        crawl.visit(0, Politecrawl.GONE);
        nextIs(crawl, 1);
        crawl.visit(1, Politecrawl.GONE);
        nextIs(crawl, 3);
        crawl.visit(3, Politecrawl.GONE);
        nextIs(crawl, Politecrawl.NONE);
        crawl.pass(5);
        nextIs(crawl, 2);
    }

    static void promises18And19OnlyThoseThatMayBeVisited() {
        Politecrawl crawl = new Politecrawl();
        Make.page(crawl, 0, 9, "a/a/a");
        nextIs(crawl, Politecrawl.NONE);
        Make.page(crawl, 0, 8, "a");
        Make.page(crawl, 0, 7, "b");
        Make.page(crawl, 1, 0, "c");
        nextIs(crawl, 1);
        crawl.visit(1, Politecrawl.UNCHANGED);
        nextIs(crawl, 3);
        crawl.pass(5);
        nextIs(crawl, 2);
        crawl.setBudget(1);
        nextIs(crawl, Politecrawl.NONE);
        crawl.pass(95);
        nextIs(crawl, 2);
    }

    static void promises18And19APageNotDueDoesNotHideOthers() {
        Politecrawl crawl = new Politecrawl();
        Make.page(crawl, 0, 9, "a");
        Make.page(crawl, 0, 0, "b");
        crawl.visit(0, Politecrawl.UNCHANGED);
        crawl.pass(5);
        nextIs(crawl, 1);
        crawl.visit(1, Politecrawl.FAILED);
        crawl.pass(25);
        nextIs(crawl, 0);
    }

    static void promise20AnswersTheTickOfTheHost() {
        Politecrawl crawl = Make.allPages();
        Check.due("visit", 5, crawl.visit(0, Politecrawl.UNCHANGED));
        Check.due("visit", 5, crawl.visit(1, Politecrawl.CHANGED));
        Check.due("visit", 10, crawl.visit(2, Politecrawl.FAILED));
        Check.due("visit", 5, crawl.visit(3, Politecrawl.GONE));
        Check.due("openFrom", 10, crawl.openFrom(2));
        Check.due("openFrom of another host", 0, crawl.openFrom(4));
        Check.due("budgetLeft", 16, crawl.budgetLeft());
    }

    static void promise20GoneEndsFailures() {
        Politecrawl crawl = Make.onePage();
        crawl.visit(0, Politecrawl.FAILED);
        crawl.pass(10);
        Check.due("visit", 15, crawl.visit(0, Politecrawl.GONE));
        Check.due("failures", 0, crawl.failures(0));
        Check.due("dueAt", Politecrawl.NONE, crawl.dueAt(0));
        crawl.pass(100);
        Check.throwsState("visit a gone one", () -> crawl.visit(0, Politecrawl.UNCHANGED));
    }

    static void promise21And22TicksPass() {
        Politecrawl crawl = new Politecrawl();
        Check.due("pass", 1, crawl.pass(1));
        Check.due("now", 1, crawl.now());
        Check.due("pass", 1001, crawl.pass(1000));
        Check.due("now", 1001, crawl.now());
    }

    static void promise23BudgetLeftFollowsTheSpans() {
        Politecrawl crawl = Make.allPages();
        Check.due("budgetLeft", 20, crawl.budgetLeft());
        crawl.visit(0, Politecrawl.UNCHANGED);
        crawl.visit(1, Politecrawl.CHANGED);
        crawl.visit(2, Politecrawl.FAILED);
        crawl.visit(3, Politecrawl.GONE);
        Check.due("budgetLeft", 16, crawl.budgetLeft());
        crawl.pass(99);
        Check.due("budgetLeft at 99", 16, crawl.budgetLeft());
        crawl.visit(0, Politecrawl.UNCHANGED);
        Check.due("budgetLeft at 99", 15, crawl.budgetLeft());
        crawl.pass(1);
        Check.due("budgetLeft at 100", 20, crawl.budgetLeft());
        crawl.visit(4, Politecrawl.GONE);
        Check.due("budgetLeft", 19, crawl.budgetLeft());
        crawl.pass(99);
        Check.due("budgetLeft at 199", 19, crawl.budgetLeft());
        crawl.pass(1000);
        Check.due("budgetLeft at 1199", 20, crawl.budgetLeft());
        crawl.visit(5, Politecrawl.GONE);
        crawl.pass(100);
        Check.due("budgetLeft at 1299", 20, crawl.budgetLeft());
    }

    static void promise23RefusedVisitsUseNoBudget() {
        Politecrawl crawl = Make.onePage();
        crawl.visit(0, Politecrawl.UNCHANGED);
        Check.throwsState("visit", () -> crawl.visit(0, Politecrawl.UNCHANGED));
        Check.throwsArgument("visit", () -> crawl.visit(0, 4));
        Check.due("budgetLeft", 19, crawl.budgetLeft());
    }

    static void promise24WaitsForThePageAndItsHost() {
        Politecrawl crawl = Make.onePage();
        crawl.visit(0, Politecrawl.UNCHANGED);
        Check.due("waiting for the page", 30, crawl.waiting());
        Make.page(crawl, 0, 0, "b");
        Check.due("waiting for the host", 5, crawl.waiting());
        crawl.pass(3);
        Check.due("waiting for the host", 2, crawl.waiting());
        Make.page(crawl, 1, 0, "c");
        Check.due("waiting", 0, crawl.waiting());
        crawl.pass(1000);
        Check.due("waiting", 0, crawl.waiting());
    }

    static void promise24WaitsForTheFirstOfAll() {
        Politecrawl crawl = new Politecrawl();
        int[] rests = {40, 7, 25};
        for (int host = 0; host < rests.length; host++) {
            crawl.setRest(host, rests[host]);
            crawl.visit(Make.page(crawl, host, 0, "a"), Politecrawl.GONE);
            Make.page(crawl, host, host, "b");
        }
        Check.due("waiting", 7, crawl.waiting());
        Make.page(crawl, 1, 9, "a/a/a");
        crawl.pass(6);
        Check.due("waiting", 1, crawl.waiting());
        crawl.pass(1);
        Check.due("waiting", 0, crawl.waiting());
    }

    static void promise24WaitsForTheBudget() {
        Politecrawl crawl = Make.allPages();
        crawl.pass(30);
        crawl.setBudget(1);
        crawl.visit(0, Politecrawl.GONE);
        Check.due("waiting", 70, crawl.waiting());
        crawl.pass(69);
        Check.due("waiting", 1, crawl.waiting());
        crawl.setBudget(2);
        Check.due("waiting", 0, crawl.waiting());
        crawl.setBudget(1);
        crawl.pass(1);
        Check.due("waiting", 0, crawl.waiting());
        crawl.visit(1, Politecrawl.GONE);
        Check.due("waiting at the first tick of a span", 100, crawl.waiting());
    }

    static void promise24TheBudgetMayComeBeforeThePage() {
        Politecrawl crawl = Make.onePage();
        crawl.setBudget(1);
        crawl.setPaces(100, 500);
        crawl.pass(10);
        crawl.visit(0, Politecrawl.UNCHANGED);
        Check.due("waiting", 300, crawl.waiting());
        crawl.setRest(0, 100);
        crawl.pass(300);
        crawl.visit(0, Politecrawl.FAILED);
        Check.due("waiting", 200, crawl.waiting());
    }
}
