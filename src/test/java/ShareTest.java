/** Promise 25: spreading. */
final class ShareTest {
    private ShareTest() {
    }

    static void promise25OnePageGetsAll() {
        Politecrawl crawl = Make.onePage();
        for (int visits = 0; visits <= 100; visits++) {
            Check.sharesAre(crawl, visits, visits);
        }
    }

    static void promise25EqualPagesTakeTurnsFromTheLowest() {
        Politecrawl crawl = new Politecrawl();
        Make.page(crawl, 5, 4, "a");
        Make.page(crawl, 0, 4, "b");
        Make.page(crawl, 3, 4, "c");
        Check.sharesAre(crawl, 0, 0, 0, 0);
        Check.sharesAre(crawl, 1, 1, 0, 0);
        Check.sharesAre(crawl, 2, 1, 1, 0);
        Check.sharesAre(crawl, 3, 1, 1, 1);
        Check.sharesAre(crawl, 4, 2, 1, 1);
        Check.sharesAre(crawl, 100, 34, 33, 33);
    }

    static void promise25HigherRanksGetMore() {
        Politecrawl crawl = new Politecrawl();
        Make.page(crawl, 0, 0, "a");
        Make.page(crawl, 0, 9, "b");
        // What each visit adds is 1/2, 1/6 .. for page 0 and 10/2, 10/6, 10/12, 10/20, 10/30 .. for page 1.
        Check.sharesAre(crawl, 1, 0, 1);
        Check.sharesAre(crawl, 3, 0, 3);
        // The fourth of page 1 adds 10/20, the first of page 0 as much: the lowest page goes first.
        Check.sharesAre(crawl, 4, 1, 3);
        Check.sharesAre(crawl, 5, 1, 4);
        Check.sharesAre(crawl, 6, 1, 5);
    }

    static void promise25ChangesCount() {
        Politecrawl crawl = new Politecrawl();
        Make.page(crawl, 0, 2, "a");
        Make.page(crawl, 1, 2, "b");
        crawl.visit(0, Politecrawl.CHANGED);
        // What each visit adds, times 1/3: 2/6, 2/12, 2/20, 2/30 for page 0, and 1/2, 1/6, 1/12, 1/20 for page 1.
        Check.sharesAre(crawl, 1, 0, 1);
        Check.sharesAre(crawl, 2, 1, 1);
        Check.sharesAre(crawl, 3, 2, 1);
        Check.sharesAre(crawl, 4, 2, 2);
        Check.sharesAre(crawl, 5, 3, 2);
        Check.sharesAre(crawl, 6, 3, 3);
    }

    static void promise25NeitherDueNorRestNorBudgetCounts() {
        Politecrawl crawl = Make.onePage();
        Make.page(crawl, 1, 5, "b");
        crawl.setBudget(1);
        crawl.visit(0, Politecrawl.FAILED);
        Check.sharesAre(crawl, 7, 4, 3);
    }

    static void promise25SharesAddUp() {
        Politecrawl crawl = Make.allPages();
        for (int visits : new int[] {0, 1, 29, 30, 31, 99, 100}) {
            int sum = 0;
            for (int page = 0; page < 30; page++) {
                sum += crawl.share(page, visits);
            }
            Check.due("the shares of " + visits, visits, sum);
        }
    }

    static void promise25AskingChangesNothing() {
        Politecrawl crawl = Make.allPages();
        int before = crawl.share(9, 50);
        crawl.share(9, 100);
        crawl.share(3, 1);
        Check.due("share", before, crawl.share(9, 50));
        Check.due("visits", 0, crawl.visits(9));
        Check.due("budgetLeft", 20, crawl.budgetLeft());
    }
}
