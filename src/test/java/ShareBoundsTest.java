/** The bounds in promise 25: above each test the sentence of the document that it holds the class to. */
final class ShareBoundsTest {
    private ShareBoundsTest() {
    }

    /** "`page`: the number of a page"; "Throws `IndexOutOfBoundsException` if there is no such page" */
    static void promise25PagesAreThoseFound() {
        Check.due("share of the first", 1, Make.busy().share(0, 7));
        Check.due("share of the last", 1, Make.busy().share(6, 7));
        Check.due("share of the 30th", 3, Make.allPages().share(29, 50));
        Refused.noSuchPage("share", (crawl, page) -> crawl.share(page, 7));
    }

    /** "`visits`: 0 to 100"; "Throws `IllegalArgumentException` if visits is out of range" */
    static void promise25VisitsAreZeroToAHundred() {
        Politecrawl crawl = Make.onePage();
        Check.sharesAre(crawl, 0, 0);
        Check.sharesAre(crawl, 1, 1);
        Check.sharesAre(crawl, 99, 99);
        Check.sharesAre(crawl, 100, 100);
        Refused busy = Refused.from(Make::busy);
        for (int visits : Refused.outside(0, 100)) {
            for (int page = 0; page < Make.BUSY_PAGES; page++) {
                int asked = page;
                busy.argument("share(" + page + ", " + visits + ")", refused -> refused.share(asked, visits));
            }
        }
    }

    /** "[..] if several exceptions apply, the one that its throws clause names first is thrown." */
    static void promise25NoSuchPageGoesBeforeTheVisits() {
        for (int visits : Refused.outside(0, 100)) {
            Refused.noSuchPage("share of " + visits, (crawl, page) -> crawl.share(page, visits));
        }
    }

    /** "Pages that are gone, or lost in a trap, get none": the others get all, and if there are none, nobody. */
    static void promise25GoneAndLostPagesGetNone() {
        Politecrawl crawl = new Politecrawl();
        Make.page(crawl, 0, 9, "a/a/a");
        Make.page(crawl, 1, 9, "a");
        Make.page(crawl, 2, 0, "b");
        crawl.visit(1, Politecrawl.GONE);
        Check.sharesAre(crawl, 1, 0, 0, 1);
        Check.sharesAre(crawl, 100, 0, 0, 100);
        crawl.visit(2, Politecrawl.GONE);
        Check.sharesAre(crawl, 0, 0, 0, 0);
        Check.sharesAre(crawl, 1, 0, 0, 0);
        Check.sharesAre(crawl, 100, 0, 0, 0);
    }

    /** "[..] of several the lowest one": of all thirty, at every count. */
    static void promise25OfSeveralTheLowestOne() {
        Politecrawl crawl = new Politecrawl();
        for (int page = 0; page < 30; page++) {
            Make.page(crawl, 5 - page % 6, 9, Make.letter(page / 6));
        }
        for (int visits : new int[] {1, 29, 30, 31, 59, 60, 61, 100}) {
            for (int page : new int[] {0, 1, 28, 29}) {
                Check.due("share(" + page + ", " + visits + ")", (visits + 29 - page) / 30, crawl.share(page, visits));
            }
        }
    }

    /** "[..] are worth (rank + 1) * x / (x + changes + 1), as a fraction": what rounding would part is equal. */
    static void promise25EqualWorthIsEqual() {
        Politecrawl crawl = new Politecrawl();
        Make.page(crawl, 0, 1, "a");
        Make.page(crawl, 1, 0, "b");
        crawl.visit(1, Politecrawl.CHANGED);
        // 2/2, then 2 * (2/3 - 1/2) = 1/3 for page 0, and 1/3 for page 1.
        Check.sharesAre(crawl, 1, 1, 0);
        Check.sharesAre(crawl, 2, 2, 0);
        Check.sharesAre(crawl, 3, 2, 1);
    }

    /** "[..] (rank + 1) * x": the lowest rank and the highest, whose visits add ten times as much. */
    static void promise25RanksAtBothEnds() {
        Politecrawl crawl = new Politecrawl();
        Make.page(crawl, 0, 9, "a");
        Make.page(crawl, 0, 0, "b");
        // 10/2, 10/6, 10/12 are more than 1/2, 10/20 is as much and goes to the lower page, 10/30 is less.
        Check.sharesAre(crawl, 3, 3, 0);
        Check.sharesAre(crawl, 4, 4, 0);
        Check.sharesAre(crawl, 5, 4, 1);
        Check.sharesAre(crawl, 100, 76, 24);
    }

    /** "[..] / (x + changes + 1)": no changes, and as many as calls allow. */
    static void promise25ManyChanges() {
        Politecrawl crawl = new Politecrawl();
        Make.page(crawl, 0, 0, "a");
        Make.page(crawl, 1, 9, "b");
        crawl.setPaces(1, 1);
        crawl.setRest(1, 1);
        crawl.setBudget(100);
        for (int changes = 0; changes < 200; changes++) {
            crawl.visit(1, Politecrawl.CHANGED);
            crawl.pass(1);
        }
        Check.due("changes", 200, crawl.changes(1));
        // Page 0 adds 1/2, 1/6, 1/12; page 1 adds 10 * 201 / ((x + 201) * (x + 202)), that is 1/20.2 at first.
        Check.sharesAre(crawl, 1, 1, 0);
        Check.sharesAre(crawl, 2, 2, 0);
        Check.sharesAre(crawl, 3, 3, 0);
        Check.sharesAre(crawl, 4, 4, 0);
        Check.sharesAre(crawl, 5, 4, 1);
    }
}
