/** Promises 6 to 10: hosts and paces. */
final class HostTest {
    private static final int LEAST = Integer.MIN_VALUE;
    private static final int MOST = Integer.MAX_VALUE;

    private HostTest() {
    }

    static void promise6SetRestAnswersTheRestBefore() {
        Politecrawl crawl = new Politecrawl();
        for (int host = 0; host < 6; host++) {
            Check.due("setRest", 5, crawl.setRest(host, 10 + host));
        }
        for (int host = 0; host < 6; host++) {
            Check.due("setRest", 10 + host, crawl.setRest(host, 1));
        }
        Check.due("setRest", 1, crawl.setRest(0, 100));
        Check.due("setRest", 100, crawl.setRest(0, 100));
    }

    static void promise6RestCountsFromTheNextVisitOn() {
        Politecrawl crawl = Make.onePage();
        Make.page(crawl, 0, 0, "b");
        crawl.setRest(0, 100);
        Check.due("openFrom", 0, crawl.openFrom(0));
        Check.due("visit", 100, crawl.visit(0, Politecrawl.UNCHANGED));
        crawl.setRest(0, 1);
        Check.due("openFrom stays", 100, crawl.openFrom(0));
        crawl.pass(100);
        Check.due("visit", 101, crawl.visit(1, Politecrawl.UNCHANGED));
    }

    static void promise6Refusals() {
        Politecrawl crawl = new Politecrawl();
        for (int host : new int[] {-1, 6, 7, LEAST, MOST}) {
            Check.throwsIndex("setRest(" + host + ", 5)", () -> crawl.setRest(host, 5));
            Check.throwsIndex("setRest(" + host + ", 0)", () -> crawl.setRest(host, 0));
        }
        for (int rest : new int[] {0, -1, 101, LEAST, MOST}) {
            Check.throwsArgument("setRest(0, " + rest + ")", () -> crawl.setRest(0, rest));
        }
        Check.due("setRest", 5, crawl.setRest(0, 5));
    }

    static void promise7PacesCountFromTheNextVisitOn() {
        Politecrawl crawl = Make.onePage();
        Make.page(crawl, 1, 0, "b");
        crawl.visit(0, Politecrawl.UNCHANGED);
        crawl.setPaces(1000, 5000);
        Check.due("dueAt stays", 30, crawl.dueAt(0));
        Check.due("dueAt stays", 0, crawl.dueAt(1));
        crawl.visit(1, Politecrawl.FAILED);
        Check.due("dueAt", 1000, crawl.dueAt(1));
        crawl.pass(30);
        crawl.visit(0, Politecrawl.UNCHANGED);
        Check.due("dueAt", 30 + 4000, crawl.dueAt(0));
        Make.passTo(crawl, 4030);
        crawl.visit(0, Politecrawl.UNCHANGED);
        Check.due("dueAt at the longest pace", 4030 + 5000, crawl.dueAt(0));
        Make.passTo(crawl, 9030);
        crawl.visit(0, Politecrawl.UNCHANGED);
        Check.due("dueAt at most the longest pace", 9030 + 5000, crawl.dueAt(0));
    }

    static void promise7ShortestMayBeTheLongest() {
        Politecrawl crawl = Make.onePage();
        crawl.setPaces(7, 7);
        crawl.visit(0, Politecrawl.UNCHANGED);
        Check.due("dueAt", 7, crawl.dueAt(0));
        crawl.setPaces(1, 1);
        crawl.pass(7);
        crawl.visit(0, Politecrawl.FAILED);
        Check.due("dueAt", 8, crawl.dueAt(0));
        crawl.setPaces(1000, 1000);
        Make.page(crawl, 1, 0, "b");
        crawl.visit(1, Politecrawl.CHANGED);
        Check.due("dueAt", 1007, crawl.dueAt(1));
    }

    static void promise7Refusals() {
        Politecrawl crawl = Make.onePage();
        int[][] paces = {{0, 5}, {-1, 5}, {1001, 2000}, {5, 4}, {1, 0}, {1, 5001}, {1000, 999}, {0, 0}, {-2, -1},
            {LEAST, MOST}, {MOST, MOST}, {1, MOST}, {1, LEAST}, {LEAST, LEAST}};
        for (int[] pair : paces) {
            Check.throwsArgument("setPaces(" + pair[0] + ", " + pair[1] + ")",
                () -> crawl.setPaces(pair[0], pair[1]));
        }
        crawl.visit(0, Politecrawl.UNCHANGED);
        Check.due("dueAt as at first", 30, crawl.dueAt(0));
    }

    static void promise7LongestIsFiveHundredAtFirst() {
        Politecrawl crawl = Make.onePage();
        crawl.setPaces(500, 500);
        crawl.visit(0, Politecrawl.UNCHANGED);
        Politecrawl other = Make.onePage();
        int due = 0;
        for (int visits = 1; visits <= 60; visits++) {
            Make.passTo(other, due);
            other.visit(0, Politecrawl.UNCHANGED);
            due = other.now() + Math.min(500, 10 * (visits + 2));
            Check.due("dueAt behind visit " + visits, due, other.dueAt(0));
        }
    }

    static void promise8SetBudgetAnswersTheBudgetBefore() {
        Politecrawl crawl = new Politecrawl();
        Check.due("setBudget", 20, crawl.setBudget(1));
        Check.due("setBudget", 1, crawl.setBudget(100));
        Check.due("setBudget", 100, crawl.setBudget(50));
        Check.due("budgetLeft", 50, crawl.budgetLeft());
    }

    static void promise8BudgetHoldsForTheSpanThatGoesOn() {
        Politecrawl crawl = Make.allPages();
        crawl.visit(0, Politecrawl.UNCHANGED);
        crawl.visit(1, Politecrawl.FAILED);
        crawl.visit(2, Politecrawl.GONE);
        Check.due("budgetLeft", 17, crawl.budgetLeft());
        crawl.setBudget(3);
        Check.due("budgetLeft", 0, crawl.budgetLeft());
        Check.fails("mayVisit", crawl.mayVisit(3));
        crawl.setBudget(2);
        Check.due("budgetLeft", 0, crawl.budgetLeft());
        Check.due("next", Politecrawl.NONE, crawl.next());
        crawl.setBudget(4);
        Check.due("budgetLeft", 1, crawl.budgetLeft());
        Check.holds("mayVisit", crawl.mayVisit(3));
    }

    static void promise8Refusals() {
        Politecrawl crawl = new Politecrawl();
        for (int visits : new int[] {0, -1, 101, LEAST, MOST}) {
            Check.throwsArgument("setBudget(" + visits + ")", () -> crawl.setBudget(visits));
        }
        Check.due("setBudget", 20, crawl.setBudget(20));
    }

    static void promise9FailuresGrowAndEnd() {
        Politecrawl crawl = Make.allPages();
        for (int failures = 1; failures <= 8; failures++) {
            Make.passTo(crawl, Math.max(crawl.dueAt(3), crawl.openFrom(3)));
            crawl.visit(3, Politecrawl.FAILED);
            Check.due("failures", failures, crawl.failures(3));
            Check.due("failures of another host", 0, crawl.failures(2));
        }
        Make.passTo(crawl, crawl.openFrom(3));
        crawl.visit(9, Politecrawl.GONE);
        Check.due("failures behind a gone page", 0, crawl.failures(3));
        Make.passTo(crawl, crawl.openFrom(3));
        crawl.visit(3, Politecrawl.FAILED);
        Check.due("failures", 1, crawl.failures(3));
        Make.passTo(crawl, crawl.openFrom(3));
        crawl.visit(15, Politecrawl.UNCHANGED);
        Check.due("failures behind an unchanged page", 0, crawl.failures(3));
        Make.passTo(crawl, crawl.openFrom(3));
        crawl.visit(3, Politecrawl.FAILED);
        Make.passTo(crawl, crawl.openFrom(3));
        crawl.visit(21, Politecrawl.CHANGED);
        Check.due("failures behind a changed page", 0, crawl.failures(3));
    }

    static void promise9Refusals() {
        Politecrawl crawl = new Politecrawl();
        for (int host : new int[] {-1, 6, LEAST, MOST}) {
            Check.throwsIndex("failures(" + host + ")", () -> crawl.failures(host));
        }
        Check.due("failures", 0, crawl.failures(5));
    }

    static void promise10OpenFromMayHavePassed() {
        Politecrawl crawl = Make.allPages();
        Make.passTo(crawl, 7);
        Check.due("openFrom", 0, crawl.openFrom(5));
        crawl.visit(5, Politecrawl.UNCHANGED);
        Check.due("openFrom", 12, crawl.openFrom(5));
        Check.due("openFrom of another host", 0, crawl.openFrom(4));
        crawl.pass(500);
        Check.due("openFrom", 12, crawl.openFrom(5));
    }

    static void promise10Refusals() {
        Politecrawl crawl = new Politecrawl();
        for (int host : new int[] {-1, 6, LEAST, MOST}) {
            Check.throwsIndex("openFrom(" + host + ")", () -> crawl.openFrom(host));
        }
        Check.due("openFrom", 0, crawl.openFrom(0));
    }
}
