/** Promises 11 to 17: pages. */
final class PageTest {
    private static final int LEAST = Integer.MIN_VALUE;
    private static final int MOST = Integer.MAX_VALUE;

    private PageTest() {
    }

    static void promise11FindNumbersPagesInOrder() {
        Politecrawl crawl = new Politecrawl();
        Check.due("the empty address", 0, crawl.find(0, 0));
        Check.due("a", 1, Make.page(crawl, 0, 9, "a"));
        Check.due("a of another host", 2, Make.page(crawl, 5, 9, "a"));
        Check.due("a/", 3, Make.page(crawl, 0, 9, "a/"));
        Check.due("/a", 4, Make.page(crawl, 0, 9, "/a"));
        Check.due("a//", 5, Make.page(crawl, 0, 9, "a//"));
        Check.due("b", 6, Make.page(crawl, 0, 9, "b"));
        Check.due("the empty address", 0, Make.page(crawl, 0, 3, ""));
        Check.due("a", 1, Make.page(crawl, 0, 3, "a"));
        Check.due("a of another host", 2, Make.page(crawl, 5, 3, "a"));
        Check.due("a/", 3, Make.page(crawl, 0, 3, "a/"));
        Check.due("pages", 7, crawl.pages());
    }

    static void promise11SlashesAtTheEndsCount() {
        Politecrawl crawl = new Politecrawl();
        String[] addresses = {"a//", "a/", "a", "/a", "//a", "//", "/", ""};
        for (int page = 0; page < addresses.length; page++) {
            Check.due("find", page, Make.page(crawl, 3, 1, addresses[page]));
        }
    }

    static void promise11AddressesAreComparedWhole() {
        Politecrawl crawl = new Politecrawl();
        String long29 = "abcdefghijklmnopqrstuvwxyzabc";
        Check.due("30 characters", 0, Make.page(crawl, 1, 1, long29 + "d"));
        Check.due("another last one", 1, Make.page(crawl, 1, 1, long29 + "e"));
        Check.due("another first one", 2, Make.page(crawl, 1, 1, "b" + long29.substring(1) + "d"));
        Check.due("29 of them", 3, Make.page(crawl, 1, 1, long29));
        Check.due("30 characters", 0, Make.page(crawl, 1, 1, long29 + "d"));
    }

    static void promise11FoundAgainKeepsRankAndDue() {
        Politecrawl crawl = Make.onePage();
        crawl.pass(3);
        Check.due("find", 0, crawl.find(0, 9));
        Check.due("rank", 5, crawl.setRank(0, 5));
        Check.due("dueAt", 0, crawl.dueAt(0));
        crawl.visit(0, Politecrawl.GONE);
        Check.due("find a gone one", 0, crawl.find(0, 0));
        Check.due("rank", 5, crawl.setRank(0, 5));
        Check.due("it stays gone", Politecrawl.NONE, crawl.dueAt(0));
        Check.due("pages", 1, crawl.pages());
    }

    static void promise11TheBufferGoesOnApartFromThePage() {
        Politecrawl crawl = Make.onePage();
        crawl.type('b');
        Check.due("ab", 1, crawl.find(0, 1));
        Check.due("a", 0, Make.page(crawl, 0, 1, "a"));
    }

    static void promise11NewPageIsDueAtOnce() {
        Politecrawl crawl = new Politecrawl();
        crawl.pass(250);
        Check.due("find", 0, crawl.find(2, 9));
        Check.due("dueAt", 250, crawl.dueAt(0));
        Check.due("visits", 0, crawl.visits(0));
        Check.due("changes", 0, crawl.changes(0));
        Check.due("rank", 9, crawl.setRank(0, 0));
        Check.holds("mayVisit", crawl.mayVisit(0));
    }

    static void promise11ThirtyPages() {
        Politecrawl crawl = Make.allPages();
        Check.due("pages", 30, crawl.pages());
        Make.address(crawl, "new");
        Check.throwsState("find(0, 0)", () -> crawl.find(0, 0));
        Check.throwsIndex("find(6, 10) comes first", () -> crawl.find(6, 10));
        Check.throwsArgument("find(0, 10) comes first", () -> crawl.find(0, 10));
        Check.due("pages", 30, crawl.pages());
        Check.due("one that is there", 29, Make.page(crawl, 29 % 6, 0, "zd"));
        Check.due("one that is there", 0, Make.page(crawl, 0, 0, "a"));
    }

    static void promise11Refusals() {
        Politecrawl crawl = Make.onePage();
        String before = Make.stateOf(crawl);
        for (int host : new int[] {-1, 6, LEAST, MOST}) {
            Check.throwsIndex("find(" + host + ", 0)", () -> crawl.find(host, 0));
            Check.throwsIndex("find(" + host + ", 10)", () -> crawl.find(host, 10));
        }
        for (int rank : new int[] {-1, 10, LEAST, MOST}) {
            Check.throwsArgument("find(0, " + rank + ")", () -> crawl.find(0, rank));
            Check.throwsArgument("find(1, " + rank + ")", () -> crawl.find(1, rank));
        }
        Check.holds("nothing is changed", before.equals(Make.stateOf(crawl)));
    }

    static void promise12SetRankAnswersTheRankBefore() {
        Politecrawl crawl = Make.onePage();
        Make.page(crawl, 0, 0, "a/a/a");
        Check.due("setRank", 5, crawl.setRank(0, 0));
        Check.due("setRank", 0, crawl.setRank(0, 9));
        crawl.visit(0, Politecrawl.GONE);
        Check.due("setRank of a gone page", 9, crawl.setRank(0, 2));
        Check.due("setRank", 2, crawl.setRank(0, 2));
        Check.due("setRank of a lost page", 0, crawl.setRank(1, 8));
        Check.due("setRank", 8, crawl.setRank(1, 8));
    }

    static void promise12TheRankCounts() {
        Politecrawl crawl = Make.allPages();
        crawl.setRank(17, 9);
        crawl.setRank(9, 0);
        Check.due("next", 17, crawl.next());
        crawl.setRank(4, 9);
        Check.due("next", 4, crawl.next());
    }

    static void promise12Refusals() {
        Politecrawl crawl = Make.onePage();
        for (int page : new int[] {-1, 1, 29, 30, LEAST, MOST}) {
            Check.throwsIndex("setRank(" + page + ", 0)", () -> crawl.setRank(page, 0));
            Check.throwsIndex("setRank(" + page + ", 10)", () -> crawl.setRank(page, 10));
        }
        for (int rank : new int[] {-1, 10, LEAST, MOST}) {
            Check.throwsArgument("setRank(0, " + rank + ")", () -> crawl.setRank(0, rank));
        }
        Check.due("setRank", 5, crawl.setRank(0, 5));
    }

    static void promise13PagesCountsGoneAndLostOnes() {
        Politecrawl crawl = new Politecrawl();
        Check.due("pages", 0, crawl.pages());
        Make.page(crawl, 0, 0, "a");
        Make.page(crawl, 0, 0, "a/a/a");
        Check.due("pages", 2, crawl.pages());
        crawl.visit(0, Politecrawl.GONE);
        Check.due("pages", 2, crawl.pages());
        Check.due("find", 1, Make.page(crawl, 0, 0, "a/a/a"));
        Check.due("pages", 2, crawl.pages());
    }

    static void promise14DueAtFollowsTheVisits() {
        Politecrawl crawl = Make.onePage();
        Check.due("dueAt", 0, crawl.dueAt(0));
        crawl.pass(2);
        crawl.visit(0, Politecrawl.CHANGED);
        Check.due("10 * 3 / 2", 2 + 15, crawl.dueAt(0));
        Make.passTo(crawl, 17);
        crawl.visit(0, Politecrawl.CHANGED);
        Check.due("10 * 4 / 3 rounded up", 17 + 14, crawl.dueAt(0));
        Make.passTo(crawl, 31);
        crawl.visit(0, Politecrawl.UNCHANGED);
        Check.due("10 * 5 / 3 rounded up", 31 + 17, crawl.dueAt(0));
        Make.passTo(crawl, 48);
        crawl.visit(0, Politecrawl.FAILED);
        Check.due("the shortest", 58, crawl.dueAt(0));
        crawl.setPaces(1, 500);
        Make.passTo(crawl, 58);
        crawl.visit(0, Politecrawl.CHANGED);
        Check.due("6 / 4 rounded up", 60, crawl.dueAt(0));
        Make.passTo(crawl, 63);
        crawl.visit(0, Politecrawl.GONE);
        Check.due("gone", Politecrawl.NONE, crawl.dueAt(0));
    }

    static void promise14LostPageIsNeverDue() {
        Politecrawl crawl = new Politecrawl();
        Make.page(crawl, 0, 9, "b/a/a/a");
        Check.due("dueAt", Politecrawl.NONE, crawl.dueAt(0));
        crawl.pass(1000);
        Check.due("dueAt", Politecrawl.NONE, crawl.dueAt(0));
    }

    static void promise15And16VisitsAndChanges() {
        Politecrawl crawl = Make.onePage();
        int[] outcomes = {Politecrawl.UNCHANGED, Politecrawl.CHANGED, Politecrawl.FAILED, Politecrawl.CHANGED,
            Politecrawl.GONE};
        int[] visits = {1, 2, 2, 3, 3};
        int[] changes = {0, 1, 1, 2, 2};
        for (int i = 0; i < outcomes.length; i++) {
            crawl.pass(100);
            crawl.visit(0, outcomes[i]);
            Check.due("visits", visits[i], crawl.visits(0));
            Check.due("changes", changes[i], crawl.changes(0));
        }
    }

    static void promise15And16CountEachPageAlone() {
        Politecrawl crawl = Make.allPages();
        crawl.visit(3, Politecrawl.CHANGED);
        for (int page = 0; page < 30; page++) {
            Check.due("visits", page == 3 ? 1 : 0, crawl.visits(page));
            Check.due("changes", page == 3 ? 1 : 0, crawl.changes(page));
        }
    }

    static void promises14To17Refusals() {
        Politecrawl crawl = Make.onePage();
        for (int page : new int[] {-1, 1, 29, 30, 31, LEAST, MOST}) {
            Check.throwsIndex("dueAt(" + page + ")", () -> crawl.dueAt(page));
            Check.throwsIndex("visits(" + page + ")", () -> crawl.visits(page));
            Check.throwsIndex("changes(" + page + ")", () -> crawl.changes(page));
            Check.throwsIndex("mayVisit(" + page + ")", () -> crawl.mayVisit(page));
        }
        Politecrawl full = Make.allPages();
        Check.throwsIndex("dueAt(30)", () -> full.dueAt(30));
        Check.throwsIndex("visits(30)", () -> full.visits(30));
        Check.throwsIndex("changes(30)", () -> full.changes(30));
        Check.throwsIndex("mayVisit(30)", () -> full.mayVisit(30));
        Check.holds("mayVisit(29)", full.mayVisit(29));
    }

    static void promise17NeitherGoneNorLost() {
        Politecrawl crawl = Make.onePage();
        Make.page(crawl, 1, 9, "a/a/a");
        Check.holds("mayVisit", crawl.mayVisit(0));
        Check.fails("mayVisit a lost one", crawl.mayVisit(1));
        crawl.visit(0, Politecrawl.GONE);
        crawl.pass(1000);
        Check.fails("mayVisit a gone one", crawl.mayVisit(0));
        Check.fails("mayVisit a lost one", crawl.mayVisit(1));
    }

    static void promise17DueToTheTick() {
        Politecrawl crawl = Make.onePage();
        crawl.visit(0, Politecrawl.UNCHANGED);
        Make.passTo(crawl, 29);
        Check.fails("mayVisit at 29", crawl.mayVisit(0));
        crawl.pass(1);
        Check.holds("mayVisit at 30", crawl.mayVisit(0));
    }

    static void promise17TheHostRests() {
        Politecrawl crawl = Make.onePage();
        Make.page(crawl, 0, 0, "b");
        Make.page(crawl, 1, 0, "b");
        crawl.visit(0, Politecrawl.UNCHANGED);
        Check.fails("mayVisit", crawl.mayVisit(1));
        Check.holds("mayVisit of another host", crawl.mayVisit(2));
        crawl.pass(4);
        Check.fails("mayVisit at 4", crawl.mayVisit(1));
        crawl.pass(1);
        Check.holds("mayVisit at 5", crawl.mayVisit(1));
    }

    static void promise17TheBudgetIsUsedUp() {
        Politecrawl crawl = Make.allPages();
        crawl.setBudget(1);
        crawl.visit(0, Politecrawl.GONE);
        Check.fails("mayVisit", crawl.mayVisit(1));
        crawl.pass(99);
        Check.fails("mayVisit at 99", crawl.mayVisit(1));
        crawl.pass(1);
        Check.holds("mayVisit at 100", crawl.mayVisit(1));
    }
}
