/** Promises 11 to 17: pages. */
final class PageTest {
    private PageTest() {
    }

    static void promise11FindNumbersPagesInOrder() {
        Politecrawl crawl = new Politecrawl();
        Check.due("the empty address", 0, crawl.find(0, 0));
        Check.due("a", 1, Make.page(crawl, 0, 9, "a"));
        Check.due("a of another host", 2, Make.page(crawl, 5, 9, "a"));
        Check.due("a/", 3, Make.page(crawl, 0, 9, "a/"));
        Check.due("/a", 4, Make.page(crawl, 0, 9, "/a"));
        Check.due("a//", 5, Make.page(crawl, 0, 9, "a//"));
        Check.due("b", 6, Make.page(crawl, 0, 9, "b"));
        Check.due("the empty address", 0, Make.page(crawl, 0, 3, ""));
        Check.due("a", 1, Make.page(crawl, 0, 3, "a"));
        Check.due("a of another host", 2, Make.page(crawl, 5, 3, "a"));
        Check.due("a/", 3, Make.page(crawl, 0, 3, "a/"));
        Check.due("pages", 7, crawl.pages());
    }

    static void promise11SlashesAtTheEndsCount() {
        Politecrawl crawl = new Politecrawl();
        String[] addresses = {"a//", "a/", "a", "/a", "//a", "//", "/", ""};
        for (int page = 0; page < addresses.length; page++) {
            Check.due("find", page, Make.page(crawl, 3, 1, addresses[page]));
        }
    }

    static void promise11AddressesAreComparedWhole() {
        Politecrawl crawl = new Politecrawl();
        String long29 = "abcdefghijklmnopqrstuvwxyzabc";
        Check.due("30 characters", 0, Make.page(crawl, 1, 1, long29 + "d"));
        Check.due("another last one", 1, Make.page(crawl, 1, 1, long29 + "e"));
        Check.due("another first one", 2, Make.page(crawl, 1, 1, "b" + long29.substring(1) + "d"));
        Check.due("29 of them", 3, Make.page(crawl, 1, 1, long29));
        Check.due("30 characters", 0, Make.page(crawl, 1, 1, long29 + "d"));
    }

    static void promise11FoundAgainKeepsRankAndDue() {
        Politecrawl crawl = Make.onePage();
        crawl.pass(3);
        Check.due("find", 0, crawl.find(0, 9));
        Check.due("rank", 5, crawl.setRank(0, 5));
        Check.due("dueAt", 0, crawl.dueAt(0));
        crawl.visit(0, Politecrawl.UNCHANGED);
        Check.due("find one that is not due", 0, crawl.find(0, 9));
        Check.due("dueAt", 33, crawl.dueAt(0));
        crawl.pass(30);
        crawl.visit(0, Politecrawl.GONE);
        Check.due("find a gone one", 0, crawl.find(0, 0));
        Check.due("rank", 5, crawl.setRank(0, 5));
        Check.due("it stays gone", Politecrawl.NONE, crawl.dueAt(0));
        Check.due("pages", 1, crawl.pages());
    }

    static void promise11TheBufferGoesOnApartFromThePage() {
        Politecrawl crawl = Make.onePage();
        crawl.type('b');
        Check.due("ab", 1, crawl.find(0, 1));
        Check.due("a", 0, Make.page(crawl, 0, 1, "a"));
    }

    static void promise11NewPageIsDueAtOnce() {
        Politecrawl crawl = new Politecrawl();
        crawl.pass(250);
        Check.due("find", 0, crawl.find(2, 9));
        Check.due("dueAt", 250, crawl.dueAt(0));
        Check.due("visits", 0, crawl.visits(0));
        Check.due("changes", 0, crawl.changes(0));
        Check.due("rank", 9, crawl.setRank(0, 0));
        Check.holds("mayVisit", crawl.mayVisit(0));
    }

    static void promise12SetRankAnswersTheRankBefore() {
        Politecrawl crawl = Make.onePage();
        Make.page(crawl, 0, 0, "a/a/a");
        Check.due("setRank", 5, crawl.setRank(0, 0));
        Check.due("setRank", 0, crawl.setRank(0, 9));
        crawl.visit(0, Politecrawl.GONE);
        Check.due("setRank of a gone page", 9, crawl.setRank(0, 2));
        Check.due("setRank", 2, crawl.setRank(0, 2));
        Check.due("setRank of a lost page", 0, crawl.setRank(1, 8));
        Check.due("setRank", 8, crawl.setRank(1, 8));
    }

    static void promise12TheRankCounts() {
        Politecrawl crawl = Make.allPages();
        crawl.setRank(17, 9);
        crawl.setRank(9, 0);
        Check.due("next", 17, crawl.next());
        crawl.setRank(4, 9);
        Check.due("next", 4, crawl.next());
    }

    static void promise13PagesCountsGoneAndLostOnes() {
        Politecrawl crawl = new Politecrawl();
        Check.due("pages", 0, crawl.pages());
        Make.page(crawl, 0, 0, "a");
        Make.page(crawl, 0, 0, "a/a/a");
        Check.due("pages", 2, crawl.pages());
        crawl.visit(0, Politecrawl.GONE);
        Check.due("pages", 2, crawl.pages());
        Check.due("find", 1, Make.page(crawl, 0, 0, "a/a/a"));
        Check.due("pages", 2, crawl.pages());
    }

    static void promise14DueAtFollowsTheVisits() {
        Politecrawl crawl = Make.onePage();
        Check.due("dueAt", 0, crawl.dueAt(0));
        crawl.pass(2);
        crawl.visit(0, Politecrawl.CHANGED);
        Check.due("10 * 3 / 2", 2 + 15, crawl.dueAt(0));
        Make.passTo(crawl, 17);
        crawl.visit(0, Politecrawl.CHANGED);
        Check.due("10 * 4 / 3 rounded up", 17 + 14, crawl.dueAt(0));
        Make.passTo(crawl, 31);
        crawl.visit(0, Politecrawl.UNCHANGED);
        Check.due("10 * 5 / 3 rounded up", 31 + 17, crawl.dueAt(0));
        Make.passTo(crawl, 48);
        crawl.visit(0, Politecrawl.FAILED);
        Check.due("the shortest", 58, crawl.dueAt(0));
        crawl.setPaces(1, 500);
        Make.passTo(crawl, 58);
        crawl.visit(0, Politecrawl.CHANGED);
        Check.due("6 / 4 rounded up", 60, crawl.dueAt(0));
        Make.passTo(crawl, 63);
        crawl.visit(0, Politecrawl.GONE);
        Check.due("gone", Politecrawl.NONE, crawl.dueAt(0));
    }

    static void promise15And16VisitsAndChanges() {
        Politecrawl crawl = Make.onePage();
        int[] outcomes = {Politecrawl.UNCHANGED, Politecrawl.CHANGED, Politecrawl.FAILED, Politecrawl.CHANGED,
            Politecrawl.GONE};
        int[] visits = {1, 2, 2, 3, 3};
        int[] changes = {0, 1, 1, 2, 2};
        for (int i = 0; i < outcomes.length; i++) {
            crawl.pass(100);
            crawl.visit(0, outcomes[i]);
            Check.due("visits", visits[i], crawl.visits(0));
            Check.due("changes", changes[i], crawl.changes(0));
        }
    }

    static void promise15And16CountEachPageAlone() {
        Politecrawl crawl = Make.allPages();
        crawl.visit(3, Politecrawl.CHANGED);
        for (int page = 0; page < 30; page++) {
            Check.due("visits", page == 3 ? 1 : 0, crawl.visits(page));
            Check.due("changes", page == 3 ? 1 : 0, crawl.changes(page));
        }
    }

    static void promise17TheHostRests() {
        Politecrawl crawl = Make.onePage();
        Make.page(crawl, 0, 0, "b");
        Make.page(crawl, 1, 0, "b");
        crawl.visit(0, Politecrawl.UNCHANGED);
        Check.fails("mayVisit", crawl.mayVisit(1));
        Check.holds("mayVisit of another host", crawl.mayVisit(2));
        crawl.pass(4);
        Check.fails("mayVisit at 4", crawl.mayVisit(1));
        crawl.pass(1);
        Check.holds("mayVisit at 5", crawl.mayVisit(1));
    }
}
