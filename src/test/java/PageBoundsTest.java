/** The bounds in promises 11 to 17: above each test the sentence of the document that it holds the class to. */
final class PageBoundsTest {
    private static final String TWENTY_NINE = "abcdefghijklmnopqrstuvwxyzabc";

    private PageBoundsTest() {
    }

    /** Thirty pages, and another address in the buffer. */
    private static Politecrawl fullWithANewAddress() {
        Politecrawl crawl = Make.allPages();
        Make.address(crawl, "new");
        return crawl;
    }

    /** "`host`: 0 to 5"; "Throws `IndexOutOfBoundsException` if there is no such host" */
    static void promise11HostsAreZeroToFive() {
        for (int host : new int[] {0, 5}) {
            Politecrawl crawl = new Politecrawl();
            Check.due("find", 0, crawl.find(host, 0));
            crawl.visit(0, Politecrawl.UNCHANGED);
            Check.due("openFrom", 5, crawl.openFrom(host));
        }
        Refused.noSuchHost("find", (crawl, host) -> crawl.find(host, 5));
    }

    /** "`rank`: 0 to 9"; "Throws `IllegalArgumentException` if rank is out of range": of known pages and new ones. */
    static void promise11RanksAreZeroToNine() {
        for (int rank : new int[] {0, 9}) {
            Politecrawl crawl = new Politecrawl();
            Check.due("find", 0, crawl.find(0, rank));
            Check.due("the rank", rank, crawl.setRank(0, 5));
        }
        Refused busy = Refused.from(Make::busy);
        for (int rank : Refused.outside(0, 9)) {
            busy.argument("find a new one with rank " + rank, crawl -> crawl.find(0, rank));
            busy.argument("find a known one with rank " + rank, crawl -> crawl.find(4, rank));
        }
    }

    /** "[..] whose address is in the buffer, character by character, which may be empty." */
    static void promise11TheBufferMayBeEmpty() {
        Politecrawl crawl = new Politecrawl();
        Check.due("the empty address", 0, crawl.find(2, 1));
        Check.due("the empty address of another host", 1, crawl.find(3, 1));
        Check.due("a slash", 2, Make.page(crawl, 2, 1, "/"));
        Check.due("the empty address again", 0, Make.page(crawl, 2, 1, ""));
        Check.holds("mayVisit", crawl.mayVisit(0));
    }

    /** "[..] character by character": the first, the last and the number of them count, up to 30. */
    static void promise11AddressesOfThirtyCharacters() {
        String[] addresses = {TWENTY_NINE + "d", TWENTY_NINE + "/", TWENTY_NINE, "/" + TWENTY_NINE,
            "b" + TWENTY_NINE.substring(1) + "d", TWENTY_NINE.substring(1) + "d"};
        Politecrawl crawl = new Politecrawl();
        for (int round = 0; round < 2; round++) {
            for (int page = 0; page < addresses.length; page++) {
                Check.due("find " + addresses[page], page, Make.page(crawl, 4, 1, addresses[page]));
            }
        }
    }

    /** "Throws `IllegalStateException` if it would be a new one, and there are 30 pages": "up to 30." */
    static void promise11ThirtyPagesAreTheMost() {
        Politecrawl crawl = new Politecrawl();
        for (int page = 0; page < 30; page++) {
            Check.due("find", page, Make.page(crawl, page % 3, 0, Make.letter(page / 3)));
        }
        Refused full = Refused.from(PageBoundsTest::fullWithANewAddress);
        for (int host = 0; host < 6; host++) {
            int asked = host;
            full.state("find a new one", refused -> refused.find(asked, 0));
        }
        Refused.from(Make::allPages).state("find one of another host", refused -> refused.find(0, 9));
    }

    /** "[..] if it would be a new one": known ones are found among thirty, too, gone ones as well. */
    static void promise11KnownOnesAreFoundAmongThirty() {
        Politecrawl crawl = Make.allPages();
        Check.due("the last one", 29, crawl.find(29 % 6, 9));
        crawl.visit(0, Politecrawl.GONE);
        Check.due("the first one, gone", 0, Make.page(crawl, 0, 9, "a"));
        Check.due("one between", 25, Make.page(crawl, 25 % 6, 9, "z"));
        Check.due("pages", 30, crawl.pages());
    }

    /** "Throws `IllegalStateException` if [..] there are 30 pages": gone and lost ones are among them. */
    static void promise11GoneAndLostOnesMakeNoRoom() {
        Politecrawl crawl = new Politecrawl();
        for (int page = 0; page < 30; page++) {
            Make.page(crawl, page % 6, 0, "a/a/a/" + Make.letter(page / 6));
        }
        Make.address(crawl, "b");
        Check.throwsState("find among lost ones", () -> crawl.find(0, 0));
        Politecrawl other = Make.allPages();
        for (int page = 0; page < 6; page++) {
            other.visit(page, Politecrawl.GONE);
        }
        Make.address(other, "new");
        Check.throwsState("find among gone ones", () -> other.find(0, 0));
        Check.due("pages", 30, other.pages());
    }

    /** "[..] if several exceptions apply, the one that its throws clause names first is thrown." */
    static void promise11TheHostGoesBeforeTheRankAndBothBeforeThirtyPages() {
        Refused full = Refused.from(PageBoundsTest::fullWithANewAddress);
        for (int host : Refused.outside(0, 5)) {
            full.index("find(" + host + ", 0)", crawl -> crawl.find(host, 0));
            for (int rank : Refused.outside(0, 9)) {
                full.index("find(" + host + ", " + rank + ")", crawl -> crawl.find(host, rank));
            }
        }
        for (int rank : Refused.outside(0, 9)) {
            full.argument("find(0, " + rank + ")", crawl -> crawl.find(0, rank));
        }
    }

    /** "[..] also if it is gone, which keeps its rank then." */
    static void promise11AGoneOneKeepsItsRank() {
        Politecrawl crawl = Make.onePage();
        crawl.visit(0, Politecrawl.GONE);
        Check.due("find with rank 0", 0, crawl.find(0, 0));
        Check.due("find with rank 9", 0, crawl.find(0, 9));
        Check.due("the rank", 5, crawl.setRank(0, 5));
        Check.due("dueAt", Politecrawl.NONE, crawl.dueAt(0));
        Check.due("pages", 1, crawl.pages());
    }

    /** "[..] a tick at which it is due: that at which it was found": the first tick, and the last. */
    static void promise11IsDueWhenFound() {
        Politecrawl crawl = Make.onePage();
        Check.due("dueAt of tick 0", 0, crawl.dueAt(0));
        Make.passTo(crawl, 100000);
        Check.due("find", 1, Make.page(crawl, 1, 9, "b"));
        Check.due("find the first again", 0, Make.page(crawl, 0, 9, "a"));
        Check.due("dueAt of tick 100000", 100000, crawl.dueAt(1));
        Check.due("dueAt of one found again", 0, crawl.dueAt(0));
        Check.holds("mayVisit", crawl.mayVisit(1));
    }

    /** "It has a number of visits and a number of changes, both 0 at first." */
    static void promise11NeitherVisitsNorChangesAtFirst() {
        Politecrawl crawl = Make.busy();
        Check.due("find", 7, crawl.find(1, 9));
        Check.due("visits", 0, crawl.visits(7));
        Check.due("changes", 0, crawl.changes(7));
    }

    /** "`page`: the number of a page"; "Throws `IndexOutOfBoundsException` if there is no such page" */
    static void promise12PagesAreThoseFound() {
        Check.due("setRank of the first", 5, Make.busy().setRank(0, 1));
        Check.due("setRank of the last", 6, Make.busy().setRank(6, 1));
        Check.due("setRank of the 30th", 9, Make.allPages().setRank(29, 1));
        Refused.noSuchPage("setRank", (crawl, page) -> crawl.setRank(page, 1));
    }

    /** "`rank`: 0 to 9"; "Throws `IllegalArgumentException` if rank is out of range" */
    static void promise12RanksAreZeroToNine() {
        Politecrawl crawl = Make.onePage();
        Check.due("setRank", 5, crawl.setRank(0, 0));
        Check.due("setRank", 0, crawl.setRank(0, 9));
        Check.due("setRank", 9, crawl.setRank(0, 9));
        Refused busy = Refused.from(Make::busy);
        for (int rank : Refused.outside(0, 9)) {
            for (int page = 0; page < Make.BUSY_PAGES; page++) {
                int changed = page;
                busy.argument("setRank(" + page + ", " + rank + ")", refused -> refused.setRank(changed, rank));
            }
        }
    }

    /** "[..] if several exceptions apply, the one that its throws clause names first is thrown." */
    static void promise12NoSuchPageGoesBeforeTheRank() {
        for (int rank : Refused.outside(0, 9)) {
            Refused.noSuchPage("setRank with " + rank, (crawl, page) -> crawl.setRank(page, rank));
        }
    }

    /** "Sets the rank of a page": of gone ones and lost ones, too. */
    static void promise12GoneAndLostOnesHaveARank() {
        Politecrawl crawl = Make.busy();
        Check.due("setRank of a lost one", 0, crawl.setRank(2, 9));
        Check.due("setRank of a lost one", 9, crawl.setRank(2, 9));
        Check.due("setRank of a gone one", 3, crawl.setRank(4, 0));
        Check.due("setRank of a gone one", 0, crawl.setRank(4, 0));
        Check.due("dueAt of a lost one", Politecrawl.NONE, crawl.dueAt(2));
        Check.due("dueAt of a gone one", Politecrawl.NONE, crawl.dueAt(4));
    }

    /** "Returns how many pages there are": none at first, "up to 30." */
    static void promise13FromNoneToThirty() {
        Politecrawl crawl = new Politecrawl();
        for (int pages = 0; pages < 30; pages++) {
            Check.due("pages", pages, crawl.pages());
            Make.page(crawl, pages % 2, 0, Make.letter(pages / 2));
        }
        Check.due("pages", 30, crawl.pages());
        Make.address(crawl, "new");
        Check.throwsState("find", () -> crawl.find(0, 0));
        Check.due("pages", 30, crawl.pages());
    }

    /** "[..] gone ones and lost ones too." */
    static void promise13GoneOnesAndLostOnesCount() {
        Politecrawl crawl = Make.onePage();
        Make.page(crawl, 0, 0, "a/a/a");
        Check.due("pages with a lost one", 2, crawl.pages());
        crawl.visit(0, Politecrawl.GONE);
        Check.due("pages with a gone one", 2, crawl.pages());
    }

    /** "`page`: the number of a page"; "Throws `IndexOutOfBoundsException` if there is no such page" */
    static void promise14PagesAreThoseFound() {
        Check.due("dueAt of the first", 144, Make.busy().dueAt(0));
        Check.due("dueAt of the last", 133, Make.busy().dueAt(6));
        Check.due("dueAt of the 30th", 0, Make.allPages().dueAt(29));
        Refused.noSuchPage("dueAt", Politecrawl::dueAt);
    }

    /** "Returns the tick; NONE if it is gone." */
    static void promise14NoneIfItIsGone() {
        Politecrawl crawl = Make.onePage();
        Check.due("dueAt before", 0, crawl.dueAt(0));
        crawl.visit(0, Politecrawl.GONE);
        Check.due("dueAt", Politecrawl.NONE, crawl.dueAt(0));
        crawl.pass(1000);
        Check.due("dueAt", Politecrawl.NONE, crawl.dueAt(0));
    }

    /** "Returns the tick; NONE if it is [..] lost in a trap." */
    static void promise14NoneIfItIsLost() {
        Politecrawl crawl = new Politecrawl();
        Make.page(crawl, 0, 9, "a/a");
        Make.page(crawl, 0, 9, "a/a/a");
        Check.due("dueAt of what is no trap yet", 0, crawl.dueAt(0));
        Check.due("dueAt", Politecrawl.NONE, crawl.dueAt(1));
        crawl.pass(1000);
        Check.due("dueAt", Politecrawl.NONE, crawl.dueAt(1));
    }

    /** "`page`: the number of a page"; "Throws `IndexOutOfBoundsException` if there is no such page" */
    static void promise15PagesAreThoseFound() {
        Check.due("visits of the first", 2, Make.busy().visits(0));
        Check.due("visits of the last", 0, Make.busy().visits(6));
        Check.due("visits of the 30th", 0, Make.allPages().visits(29));
        Refused.noSuchPage("visits", Politecrawl::visits);
    }

    /** "Returns how many visits of a page were neither failures nor the one at which it was gone." */
    static void promise15NeitherFailuresNorTheLastOne() {
        Politecrawl crawl = Make.onePage();
        int[] outcomes = {Politecrawl.FAILED, Politecrawl.UNCHANGED, Politecrawl.CHANGED, Politecrawl.FAILED,
            Politecrawl.GONE};
        int[] visits = {0, 1, 2, 2, 2};
        for (int i = 0; i < outcomes.length; i++) {
            crawl.visit(0, outcomes[i]);
            Check.due("visits behind outcome " + outcomes[i], visits[i], crawl.visits(0));
            crawl.pass(100);
        }
        Check.due("visits of a lost one", 0, Make.busy().visits(2));
    }

    /** "`page`: the number of a page"; "Throws `IndexOutOfBoundsException` if there is no such page" */
    static void promise16PagesAreThoseFound() {
        Check.due("changes of the first", 1, Make.busy().changes(0));
        Check.due("changes of the last", 0, Make.busy().changes(6));
        Check.due("changes of the 30th", 0, Make.allPages().changes(29));
        Refused.noSuchPage("changes", Politecrawl::changes);
    }

    /** "Returns how many changes of a page were found": outcome 1 alone. */
    static void promise16OnlyChangedOnesCount() {
        Politecrawl crawl = Make.onePage();
        int[] outcomes = {Politecrawl.UNCHANGED, Politecrawl.CHANGED, Politecrawl.FAILED, Politecrawl.CHANGED,
            Politecrawl.GONE};
        int[] changes = {0, 1, 1, 2, 2};
        for (int i = 0; i < outcomes.length; i++) {
            crawl.visit(0, outcomes[i]);
            Check.due("changes behind outcome " + outcomes[i], changes[i], crawl.changes(0));
            crawl.pass(100);
        }
        Check.due("changes of a lost one", 0, Make.busy().changes(2));
    }

    /** "`page`: the number of a page"; "Throws `IndexOutOfBoundsException` if there is no such page" */
    static void promise17PagesAreThoseFound() {
        Check.fails("mayVisit the first", Make.busy().mayVisit(0));
        Check.holds("mayVisit the last", Make.busy().mayVisit(6));
        Check.holds("mayVisit the 30th", Make.allPages().mayVisit(29));
        Refused.noSuchPage("mayVisit", Politecrawl::mayVisit);
    }

    /** "A page may be visited at a tick if it is not gone and not lost in a trap [..]" */
    static void promise17NotGoneAndNotLost() {
        Politecrawl crawl = new Politecrawl();
        Make.page(crawl, 0, 0, "a/a");
        Make.page(crawl, 1, 0, "a/a/a");
        Check.holds("mayVisit what is no trap yet", crawl.mayVisit(0));
        Check.fails("mayVisit a lost one", crawl.mayVisit(1));
        crawl.visit(0, Politecrawl.GONE);
        crawl.pass(1000);
        Check.fails("mayVisit a gone one", crawl.mayVisit(0));
        Check.fails("mayVisit a lost one", crawl.mayVisit(1));
    }

    /** "[..] is due (its tick has come) [..]": not at the tick before. */
    static void promise17ItsTickHasCome() {
        Politecrawl crawl = Make.onePage();
        crawl.setRest(0, 1);
        Check.holds("mayVisit at the tick found", crawl.mayVisit(0));
        crawl.visit(0, Politecrawl.CHANGED);
        crawl.pass(14);
        Check.fails("mayVisit at 14", crawl.mayVisit(0));
        crawl.pass(1);
        Check.holds("mayVisit at 15", crawl.mayVisit(0));
        crawl.pass(1);
        Check.holds("mayVisit at 16", crawl.mayVisit(0));
    }

    /** "[..] its host may be visited [..]": not at the tick before. */
    static void promise17TheTickOfItsHostHasCome() {
        Politecrawl crawl = Make.onePage();
        crawl.setRest(0, 100);
        crawl.visit(0, Politecrawl.CHANGED);
        crawl.pass(99);
        Check.fails("mayVisit at 99", crawl.mayVisit(0));
        crawl.pass(1);
        Check.holds("mayVisit at 100", crawl.mayVisit(0));
        crawl.pass(1);
        Check.holds("mayVisit at 101", crawl.mayVisit(0));
    }

    /** "[..] and the budget is not used up": with one visit left, and with none. */
    static void promise17TheBudgetIsNotUsedUp() {
        Politecrawl crawl = Make.allPages();
        crawl.setBudget(2);
        crawl.visit(0, Politecrawl.UNCHANGED);
        Check.holds("mayVisit with one left", crawl.mayVisit(2));
        crawl.visit(1, Politecrawl.UNCHANGED);
        Check.fails("mayVisit with none left", crawl.mayVisit(2));
        crawl.pass(99);
        Check.fails("mayVisit at 99", crawl.mayVisit(2));
        crawl.pass(1);
        Check.holds("mayVisit at 100", crawl.mayVisit(2));
    }
}
