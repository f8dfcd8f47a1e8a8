/** Promises 6 to 10: hosts and paces. */
final class HostTest {
    private HostTest() {
    }

    static void promise6SetRestAnswersTheRestBefore() {
        Politecrawl crawl = new Politecrawl();
        for (int host = 0; host < 6; host++) {
            Check.due("setRest", 5, crawl.setRest(host, 10 + host));
        }
        for (int host = 0; host < 6; host++) {
            Check.due("setRest", 10 + host, crawl.setRest(host, 1));
        }
        Check.due("setRest", 1, crawl.setRest(0, 100));
        Check.due("setRest", 100, crawl.setRest(0, 100));
    }

    static void promise6RestCountsFromTheNextVisitOn() {
        Politecrawl crawl = Make.onePage();
        Make.page(crawl, 0, 0, "b");
        crawl.setRest(0, 100);
        Check.due("openFrom", 0, crawl.openFrom(0));
        Check.due("visit", 100, crawl.visit(0, Politecrawl.UNCHANGED));
        crawl.setRest(0, 1);
        Check.due("openFrom stays", 100, crawl.openFrom(0));
        crawl.pass(100);
        Check.due("visit", 101, crawl.visit(1, Politecrawl.UNCHANGED));
    }

    static void promise7PacesCountFromTheNextVisitOn() {
        Politecrawl crawl = Make.onePage();
        Make.page(crawl, 1, 0, "b");
        crawl.visit(0, Politecrawl.UNCHANGED);
        crawl.setPaces(1000, 5000);
        Check.due("dueAt stays", 30, crawl.dueAt(0));
        Check.due("dueAt stays", 0, crawl.dueAt(1));
        crawl.visit(1, Politecrawl.FAILED);
        Check.due("dueAt", 1000, crawl.dueAt(1));
        crawl.pass(30);
        crawl.visit(0, Politecrawl.UNCHANGED);
        Check.due("dueAt", 30 + 4000, crawl.dueAt(0));
        Make.passTo(crawl, 4030);
        crawl.visit(0, Politecrawl.UNCHANGED);
        Check.due("dueAt at the longest pace", 4030 + 5000, crawl.dueAt(0));
        Make.passTo(crawl, 9030);
        crawl.visit(0, Politecrawl.UNCHANGED);
        Check.due("dueAt at most the longest pace", 9030 + 5000, crawl.dueAt(0));
    }

    static void promise7ShortestMayBeTheLongest() {
        Politecrawl crawl = Make.onePage();
        crawl.setPaces(7, 7);
        crawl.visit(0, Politecrawl.UNCHANGED);
        Check.due("dueAt", 7, crawl.dueAt(0));
        crawl.setPaces(1, 1);
        crawl.pass(7);
        crawl.visit(0, Politecrawl.FAILED);
        Check.due("dueAt", 8, crawl.dueAt(0));
        crawl.setPaces(1000, 1000);
        Make.page(crawl, 1, 0, "b");
        crawl.visit(1, Politecrawl.CHANGED);
        Check.due("dueAt", 1007, crawl.dueAt(1));
    }

    static void promise8SetBudgetAnswersTheBudgetBefore() {
        Politecrawl crawl = new Politecrawl();
        Check.due("setBudget", 20, crawl.setBudget(1));
        Check.due("setBudget", 1, crawl.setBudget(100));
        Check.due("setBudget", 100, crawl.setBudget(50));
        Check.due("budgetLeft", 50, crawl.budgetLeft());
        crawl.find(0, 0);
        crawl.visit(0, Politecrawl.UNCHANGED);
        Check.due("setBudget behind a visit", 50, crawl.setBudget(7));
        Check.due("setBudget behind a visit", 7, crawl.setBudget(50));
    }

    static void promise9FailuresGrowAndEnd() {
        Politecrawl crawl = Make.allPages();
        for (int failures = 1; failures <= 8; failures++) {
            Make.passTo(crawl, Math.max(crawl.dueAt(3), crawl.openFrom(3)));
            crawl.visit(3, Politecrawl.FAILED);
            Check.due("failures", failures, crawl.failures(3));
            Check.due("failures of another host", 0, crawl.failures(2));
        }
        Make.passTo(crawl, crawl.openFrom(3));
        crawl.visit(9, Politecrawl.GONE);
        Check.due("failures behind a gone page", 0, crawl.failures(3));
        Make.passTo(crawl, crawl.openFrom(3));
        crawl.visit(3, Politecrawl.FAILED);
        Check.due("failures", 1, crawl.failures(3));
        Make.passTo(crawl, crawl.openFrom(3));
        crawl.visit(15, Politecrawl.UNCHANGED);
        Check.due("failures behind an unchanged page", 0, crawl.failures(3));
        Make.passTo(crawl, crawl.openFrom(3));
        crawl.visit(3, Politecrawl.FAILED);
        Make.passTo(crawl, crawl.openFrom(3));
        crawl.visit(21, Politecrawl.CHANGED);
        Check.due("failures behind a changed page", 0, crawl.failures(3));
    }
}
