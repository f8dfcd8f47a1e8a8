import java.util.function.Supplier;
import java.util.function.ToIntFunction;

/** The bounds in promises 18 to 24: above each test the sentence of the document that it holds the class to. */
final class VisitBoundsTest {
    private VisitBoundsTest() {
    }

    private static void noneIfNoPageMayBeVisited(ToIntFunction<Politecrawl> next) {
        Politecrawl crawl = new Politecrawl();
        Check.due("next without pages", Politecrawl.NONE, next.applyAsInt(crawl));
        Make.page(crawl, 0, 9, "a/a/a");
        Check.due("next with a lost one", Politecrawl.NONE, next.applyAsInt(crawl));
        Make.page(crawl, 0, 0, "a");
        Check.due("next", 1, next.applyAsInt(crawl));
        crawl.visit(1, Politecrawl.CHANGED);
        Make.page(crawl, 0, 9, "b");
        crawl.pass(4);
        Check.due("next at 4, as the host rests", Politecrawl.NONE, next.applyAsInt(crawl));
        crawl.pass(1);
        Check.due("next at 5", 2, next.applyAsInt(crawl));
        crawl.visit(2, Politecrawl.GONE);
        crawl.pass(9);
        Check.due("next at 14, as none is due", Politecrawl.NONE, next.applyAsInt(crawl));
        crawl.pass(1);
        Check.due("next at 15", 1, next.applyAsInt(crawl));
        crawl.setBudget(2);
        Check.due("next without budget", Politecrawl.NONE, next.applyAsInt(crawl));
        crawl.setBudget(3);
        Check.due("next with one visit left", 1, next.applyAsInt(crawl));
        crawl.visit(1, Politecrawl.GONE);
        crawl.pass(1000);
        Check.due("next with gone and lost ones", Politecrawl.NONE, next.applyAsInt(crawl));
    }

    /** "The pressing [..] is 10 times its rank, and the ticks since it was due, together": 9 ticks, 10, and 11. */
    private static void tenTicksPressAsARankDoes(ToIntFunction<Politecrawl> next, int host) {
        int[] due = {1, 1, 0};
        for (int i = 0; i < due.length; i++) {
            Politecrawl crawl = new Politecrawl();
            Make.page(crawl, 0, 3, "a");
            crawl.pass(9 + i);
            Make.page(crawl, host, 4, "b");
            Check.due("next at " + (9 + i), due[i], next.applyAsInt(crawl));
        }
    }

    /** "[..] of several the one with the highest rank; of several the lowest one." */
    private static void ranksThenNumbersSettleIt(ToIntFunction<Politecrawl> next, int host) {
        Politecrawl crawl = new Politecrawl();
        Make.page(crawl, host, 0, "a");
        crawl.pass(90);
        Make.page(crawl, 0, 9, "b");
        Make.page(crawl, host, 9, "c");
        Make.page(crawl, 2, 9, "d");
        Check.due("next by rank, then by number", 1, next.applyAsInt(crawl));
        crawl.setRank(1, 8);
        Check.due("next by number", 2, next.applyAsInt(crawl));
        crawl.setRank(2, 8);
        Check.due("next by rank", 3, next.applyAsInt(crawl));
        crawl.setRank(3, 8);
        Check.due("next by pressing", 0, next.applyAsInt(crawl));
    }

    /** "Returns its number; NONE if no page may be visited now." */
    static void promise18NoneIfNoPageMayBeVisited() {
        noneIfNoPageMayBeVisited(Politecrawl::next);
    }

    /** "[..] the one with the greatest pressing": of one host, and of two. */
    static void promise18TenTicksPressAsARankDoes() {
        tenTicksPressAsARankDoes(Politecrawl::next, 0);
        tenTicksPressAsARankDoes(Politecrawl::next, 1);
    }

    /** "[..] of several the one with the highest rank; of several the lowest one": of one host, and of two. */
    static void promise18RanksThenNumbersSettleIt() {
        ranksThenNumbersSettleIt(Politecrawl::next, 0);
        ranksThenNumbersSettleIt(Politecrawl::next, 1);
        ranksThenNumbersSettleIt(Politecrawl::next, 5);
    }

    /** Each page of thirty is the next one once: the last page of the last host, too. */
    private static void eachOfThirtyPages(ToIntFunction<Politecrawl> next) {
        for (int page = 0; page < 30; page++) {
            Politecrawl crawl = Make.allPages();
            crawl.pass(9);
            Check.due("next", 9, next.applyAsInt(crawl));
            crawl.setRank(9, 0);
            crawl.setRank(19, 0);
            crawl.setRank(29, 0);
            crawl.setRank(page, 9);
            Check.due("next", page, next.applyAsInt(crawl));
        }
    }

    /** "Returns the next page, found among the first ones of each host" */
    static void promise18EachOfThirtyPages() {
        eachOfThirtyPages(Politecrawl::next);
    }

    /** "Returns its number; NONE if no page may be visited now." */
    static void promise19NoneIfNoPageMayBeVisited() {
        noneIfNoPageMayBeVisited(Politecrawl::nextByScan);
    }

    /** "Returns the same, found by going through all pages." */
    static void promise19EachOfThirtyPages() {
        eachOfThirtyPages(Politecrawl::nextByScan);
    }

    /** "Returns the same": the one with the greatest pressing. */
    static void promise19TenTicksPressAsARankDoes() {
        tenTicksPressAsARankDoes(Politecrawl::nextByScan, 0);
        tenTicksPressAsARankDoes(Politecrawl::nextByScan, 1);
    }

    /** "Returns the same": of several the one with the highest rank; of several the lowest one. */
    static void promise19RanksThenNumbersSettleIt() {
        ranksThenNumbersSettleIt(Politecrawl::nextByScan, 0);
        ranksThenNumbersSettleIt(Politecrawl::nextByScan, 1);
        ranksThenNumbersSettleIt(Politecrawl::nextByScan, 5);
    }

    /** "`page`: the number of a page"; "Throws `IndexOutOfBoundsException` if there is no such page" */
    static void promise20PagesAreThoseFound() {
        Check.due("visit the first of 30", 5, Make.allPages().visit(0, Politecrawl.UNCHANGED));
        Check.due("visit the last of 30", 5, Make.allPages().visit(29, Politecrawl.UNCHANGED));
        Check.due("visit the last of some", 138, Make.busy().visit(6, Politecrawl.UNCHANGED));
        Refused.noSuchPage("visit", (crawl, page) -> crawl.visit(page, Politecrawl.UNCHANGED));
    }

    /** "`outcome`: UNCHANGED, CHANGED, FAILED or GONE"; "[..] if there is no such outcome" */
    static void promise20OutcomesAreZeroToThree() {
        int[] open = {138, 138, 143, 138};
        for (int outcome = 0; outcome <= 3; outcome++) {
            Check.due("visit with " + outcome, open[outcome], Make.busy().visit(6, outcome));
        }
        Refused busy = Refused.from(Make::busy);
        for (int outcome : Refused.outside(0, 3)) {
            busy.argument("visit(6, " + outcome + ")", crawl -> crawl.visit(6, outcome));
        }
    }

    private static void refusedForEachOutcome(Supplier<Politecrawl> start, int page) {
        Refused refused = Refused.from(start);
        for (int outcome = 0; outcome <= 3; outcome++) {
            int tried = outcome;
            refused.state("visit(" + page + ", " + outcome + ")", crawl -> crawl.visit(page, tried));
        }
    }

    /** One page, visited at tick 0 and due at 15, some ticks later. */
    private static Politecrawl dueAt15(int tick) {
        Politecrawl crawl = Make.onePage();
        crawl.visit(0, Politecrawl.CHANGED);
        crawl.pass(tick);
        return crawl;
    }

    /** "Throws `IllegalStateException` if it may not be visited now": it is due, but not at the tick before. */
    static void promise20NotBeforeThePageIsDue() {
        refusedForEachOutcome(() -> dueAt15(14), 0);
        Check.due("visit", 20, dueAt15(15).visit(0, Politecrawl.UNCHANGED));
    }

    /** One page that is due, of a host that may be visited again at tick 5, some ticks later. */
    private static Politecrawl openFrom5(int tick) {
        Politecrawl crawl = Make.onePage();
        crawl.visit(0, Politecrawl.UNCHANGED);
        Make.page(crawl, 0, 5, "b");
        crawl.pass(tick);
        return crawl;
    }

    /** "[..] if it may not be visited now": its host may be, but not at the tick before. */
    static void promise20NotBeforeTheHostHasRested() {
        refusedForEachOutcome(() -> openFrom5(4), 1);
        // Its host has a failure, which a refused visit neither ends nor doubles.
        refusedForEachOutcome(Make::busy, 5);
        Check.due("visit", 10, openFrom5(5).visit(1, Politecrawl.UNCHANGED));
    }

    /** Thirty pages, and a budget of which some visits are used, one at each host. */
    private static Politecrawl used(int visits, int budget) {
        Politecrawl crawl = Make.allPages();
        crawl.setBudget(budget);
        for (int page = 0; page < visits; page++) {
            crawl.visit(page, page % 4);
        }
        return crawl;
    }

    /** "[..] if it may not be visited now": the last visit of the budget may be made, the one behind it not. */
    static void promise20NotBehindTheBudget() {
        refusedForEachOutcome(() -> used(3, 3), 5);
        Check.due("visit with one left", 5, used(3, 4).visit(5, Politecrawl.UNCHANGED));
        refusedForEachOutcome(() -> used(1, 1), 5);
        Check.due("visit with all left", 5, used(0, 1).visit(5, Politecrawl.UNCHANGED));
    }

    /** "[..] if it may not be visited now": a gone page never may, however long it is ago. */
    static void promise20NotAGonePage() {
        refusedForEachOutcome(Make::busy, 4);
        Politecrawl crawl = Make.busy();
        crawl.pass(1000);
        Check.throwsState("visit", () -> crawl.visit(4, Politecrawl.CHANGED));
    }

    /** "[..] if it may not be visited now": a page lost in a trap never may. */
    static void promise20NotALostPage() {
        refusedForEachOutcome(Make::busy, 2);
        Politecrawl crawl = Make.busy();
        crawl.pass(1000);
        Check.throwsState("visit", () -> crawl.visit(2, Politecrawl.CHANGED));
    }

    /** "[..] the one that its throws clause names first": no such page, before no such outcome. */
    static void promise20NoSuchPageGoesBeforeTheOutcome() {
        for (int outcome : Refused.outside(0, 3)) {
            Refused.noSuchPage("visit with " + outcome, (crawl, page) -> crawl.visit(page, outcome));
        }
        Refused spent = Refused.from(() -> used(3, 3));
        for (int page : Refused.outside(0, 29)) {
            spent.index("visit behind the budget", crawl -> crawl.visit(page, 0));
        }
    }

    /** "[..] the one that its throws clause names first": no such outcome, before a page that may not be visited. */
    static void promise20NoSuchOutcomeGoesBeforeMayNotBeVisited() {
        Refused busy = Refused.from(Make::busy);
        Refused spent = Refused.from(() -> used(3, 3));
        for (int outcome : Refused.outside(0, 3)) {
            busy.argument("visit one not due", crawl -> crawl.visit(0, outcome));
            busy.argument("visit a lost one", crawl -> crawl.visit(2, outcome));
            busy.argument("visit a gone one", crawl -> crawl.visit(4, outcome));
            spent.argument("visit one whose host rests", crawl -> crawl.visit(6, outcome));
            spent.argument("visit behind the budget", crawl -> crawl.visit(5, outcome));
        }
    }

    /** "[..] its rest times 2 to the power of its failures then, but 5 at the most as the power." */
    static void promise20ThePowerIsFiveAtTheMost() {
        for (int rest : new int[] {1, 100}) {
            Politecrawl crawl = Make.onePage();
            crawl.setRest(0, rest);
            int[] times = {1, 2, 4, 8, 16, 32, 32, 32};
            for (int failures = 0; failures < times.length; failures++) {
                int outcome = failures == 0 ? Politecrawl.UNCHANGED : Politecrawl.FAILED;
                int due = crawl.now() + rest * times[failures];
                Check.due("visit with failures " + failures, due, crawl.visit(0, outcome));
                Check.due("failures", failures, crawl.failures(0));
                Make.passTo(crawl, Math.max(due, crawl.dueAt(0)));
            }
            Check.due("visit behind failures", crawl.now() + rest, crawl.visit(0, Politecrawl.CHANGED));
        }
    }

    /** "[..] but 5 at the most as the power": behind as many failures as calls allow. */
    static void promise20ThePowerStaysBehindManyFailures() {
        Politecrawl crawl = Make.onePage();
        crawl.setRest(0, 1);
        for (int failures = 1; failures <= 120; failures++) {
            int power = Math.min(5, failures);
            Check.due("visit", crawl.now() + (1 << power), crawl.visit(0, Politecrawl.FAILED));
            crawl.pass(32);
        }
        Check.due("failures", 120, crawl.failures(0));
    }

    /** The ticks until one page is due again, behind its visits, of which the last ones found it changed. */
    private static int pace(int shortest, int longest, int unchanged, int changed) {
        Politecrawl crawl = Make.onePage();
        crawl.setPaces(1, 1);
        crawl.setRest(0, 1);
        for (int visit = 1; visit < unchanged + changed; visit++) {
            crawl.visit(0, visit <= unchanged ? Politecrawl.UNCHANGED : Politecrawl.CHANGED);
            crawl.pass(1);
        }
        crawl.setPaces(shortest, longest);
        crawl.setBudget(100);
        crawl.visit(0, changed > 0 ? Politecrawl.CHANGED : Politecrawl.UNCHANGED);
        return crawl.dueAt(0) - crawl.now();
    }

    /** "[..] divided by (changes + 1), as they are then, rounded up." */
    static void promise20PacesAreRoundedUp() {
        Check.due("3 / 2", 2, pace(1, 5000, 0, 1));
        Check.due("6 / 2", 3, pace(2, 5000, 0, 1));
        Check.due("9 / 2", 5, pace(3, 5000, 0, 1));
        Check.due("4 / 3", 2, pace(1, 5000, 0, 2));
        Check.due("8 / 3", 3, pace(2, 5000, 0, 2));
        Check.due("12 / 3", 4, pace(3, 5000, 0, 2));
        Check.due("5 / 3", 2, pace(1, 5000, 1, 2));
        Check.due("3000 / 2", 1500, pace(1000, 5000, 0, 1));
        Check.due("2997 / 2", 1499, pace(999, 5000, 0, 1));
        Check.due("11 / 10", 2, pace(1, 5000, 0, 9));
    }

    /** "[..] but at most the longest pace": the product below it, at it, and above it. */
    static void promise20PacesAreAtMostTheLongest() {
        Check.due("30 of 31", 30, pace(10, 31, 1, 0));
        Check.due("30 of 30", 30, pace(10, 30, 1, 0));
        Check.due("30 of 29", 29, pace(10, 29, 1, 0));
        Check.due("4.5 of 5", 5, pace(3, 5, 0, 1));
        Check.due("4.5 of 4", 4, pace(3, 4, 0, 1));
        Check.due("5000 of 5000", 5000, pace(1000, 5000, 3, 0));
        Check.due("6000 of 5000", 5000, pace(1000, 5000, 4, 0));
        Check.due("12000 of 5000", 5000, pace(1000, 5000, 10, 0));
    }

    /** "The page is due again when the shortest pace has passed": for 2, whatever its visits are. */
    static void promise20AFailedOneIsDueBehindTheShortestPace() {
        for (int shortest : new int[] {1, 10, 1000}) {
            Politecrawl crawl = Make.onePage();
            crawl.visit(0, Politecrawl.UNCHANGED);
            crawl.setPaces(shortest, 5000);
            crawl.pass(30);
            crawl.visit(0, Politecrawl.FAILED);
            Check.due("dueAt", 30 + shortest, crawl.dueAt(0));
            Check.due("visits", 1, crawl.visits(0));
            crawl.pass(1000);
            crawl.setPaces(shortest, shortest);
            crawl.visit(0, Politecrawl.FAILED);
            Check.due("dueAt", 1030 + shortest, crawl.dueAt(0));
        }
    }

    /** "The failures of the host become 0": for 0, 1 and 3, behind one failure and behind several. */
    static void promise20OtherOutcomesEndTheFailures() {
        for (int outcome : new int[] {Politecrawl.UNCHANGED, Politecrawl.CHANGED, Politecrawl.GONE}) {
            for (int failed = 0; failed <= 6; failed++) {
                Politecrawl crawl = Make.onePage();
                for (int failures = 0; failures < failed; failures++) {
                    crawl.visit(0, Politecrawl.FAILED);
                    crawl.pass(160);
                }
                Check.due("failures", failed, crawl.failures(0));
                Check.due("visit", crawl.now() + 5, crawl.visit(0, outcome));
                Check.due("failures", 0, crawl.failures(0));
            }
        }
    }

    /** "Returns the tick from which on its host may be visited then": at the last tick, above it. */
    static void promise20AtTheLastTick() {
        Politecrawl crawl = Make.onePage();
        Make.passTo(crawl, 100000);
        crawl.setRest(0, 100);
        Check.due("visit", 100200, crawl.visit(0, Politecrawl.FAILED));
        Check.due("openFrom", 100200, crawl.openFrom(0));
        Check.due("dueAt", 100010, crawl.dueAt(0));
    }

    /** "`ticks`: 1 to 1000"; "Throws `IllegalArgumentException` if ticks is out of range" */
    static void promise21TicksAreOneToAThousand() {
        Check.due("pass(1)", 134, Make.busy().pass(1));
        Check.due("pass(1000)", 1133, Make.busy().pass(1000));
        Refused busy = Refused.from(Make::busy);
        for (int ticks : Refused.outside(1, 1000)) {
            busy.argument("pass(" + ticks + ")", crawl -> crawl.pass(ticks));
        }
    }

    /** One page at a tick, visited then, so that some of the budget of this span is used. */
    private static Politecrawl at(int tick) {
        Politecrawl crawl = Make.onePage();
        Make.passTo(crawl, tick);
        crawl.visit(0, Politecrawl.FAILED);
        return crawl;
    }

    /** "Throws `IllegalStateException` if it would be above 100000" */
    static void promise21AHundredThousandIsTheLastTick() {
        Check.due("pass(1000)", 100000, at(99000).pass(1000));
        Check.due("pass(1)", 100000, at(99999).pass(1));
        Refused.from(() -> at(99001)).state("pass(1000)", crawl -> crawl.pass(1000));
        Refused.from(() -> at(99999)).state("pass(2)", crawl -> crawl.pass(2));
        Refused last = Refused.from(() -> at(100000));
        last.state("pass(1)", crawl -> crawl.pass(1)).state("pass(1000)", crawl -> crawl.pass(1000));
    }

    /** "[..] if several exceptions apply, the one that its throws clause names first is thrown." */
    static void promise21TicksOutOfRangeGoBeforeTheLastTick() {
        Refused last = Refused.from(() -> at(100000));
        for (int ticks : Refused.outside(1, 1000)) {
            last.argument("pass(" + ticks + ")", crawl -> crawl.pass(ticks));
        }
    }

    /** "Returns the tick": from 0 to 100000. */
    static void promise22FromZeroToTheLastTick() {
        Politecrawl crawl = new Politecrawl();
        for (int tick = 0; tick < 100000; tick += 1000) {
            Check.due("now", tick, crawl.now());
            Check.due("pass", tick + 1000, crawl.pass(1000));
        }
        Check.due("now", 100000, crawl.now());
        Check.throwsState("pass(1)", () -> crawl.pass(1));
        Check.due("now", 100000, crawl.now());
    }

    /** "Returns how many visits may be made yet": from all of the budget to none, for each outcome. */
    static void promise23FromAllToNone() {
        Politecrawl crawl = Make.allPages();
        crawl.setBudget(5);
        for (int made = 0; made < 5; made++) {
            Check.due("budgetLeft", 5 - made, crawl.budgetLeft());
            crawl.visit(made, made % 4);
        }
        Check.due("budgetLeft", 0, crawl.budgetLeft());
        Check.throwsState("visit", () -> crawl.visit(5, Politecrawl.UNCHANGED));
        Check.due("budgetLeft", 0, crawl.budgetLeft());
    }

    /** "Returns how many visits may be made yet": a budget below what is used leaves none, not less. */
    static void promise23NotBelowNone() {
        Politecrawl crawl = used(4, 4);
        crawl.setBudget(1);
        Check.due("budgetLeft", 0, crawl.budgetLeft());
        crawl.setBudget(5);
        Check.due("budgetLeft", 1, crawl.budgetLeft());
    }

    /** "[..] each span of 100 ticks (0 to 99, 100 to 199, and so on)": the first span and the next ones. */
    static void promise23SpansBeginAtHundreds() {
        Politecrawl crawl = Make.allPages();
        int page = 0;
        for (int span = 0; span < 5; span++) {
            Check.due("budgetLeft at " + crawl.now(), 20, crawl.budgetLeft());
            crawl.visit(page++, Politecrawl.GONE);
            Check.due("budgetLeft at " + crawl.now(), 19, crawl.budgetLeft());
            crawl.pass(99);
            Check.due("budgetLeft at " + crawl.now(), 19, crawl.budgetLeft());
            crawl.visit(page++, Politecrawl.GONE);
            Check.due("budgetLeft at " + crawl.now(), 18, crawl.budgetLeft());
            crawl.pass(1);
        }
        Check.due("now", 500, crawl.now());
    }

    /** "[..] each span of 100 ticks": passing over one span or several, to each end of another, gives all again. */
    static void promise23PassingOverSpans() {
        for (int ticks = 1; ticks <= 1000; ticks++) {
            Politecrawl crawl = Make.onePage();
            crawl.visit(0, Politecrawl.UNCHANGED);
            crawl.pass(ticks);
            Check.due("budgetLeft at " + crawl.now(), ticks < 100 ? 19 : 20, crawl.budgetLeft());
        }
    }

    /** "[..] that may be made in each span": what was used above a budget set lower is not taken from the next span. */
    static void promise23TheNextSpanHasAllOfItsBudget() {
        for (int budget = 1; budget <= 5; budget++) {
            Politecrawl crawl = used(5, 20);
            crawl.setBudget(budget);
            Check.due("budgetLeft", 0, crawl.budgetLeft());
            crawl.pass(100);
            Check.due("budgetLeft at 100", budget, crawl.budgetLeft());
            crawl.setBudget(20);
            Check.due("budgetLeft of 20", 20, crawl.budgetLeft());
        }
    }

    /** "[..] each span of 100 ticks": the last tick begins a span of its own. */
    static void promise23AtTheLastTick() {
        Politecrawl crawl = Make.onePage();
        Make.passTo(crawl, 99999);
        crawl.visit(0, Politecrawl.UNCHANGED);
        Check.due("budgetLeft at 99999", 19, crawl.budgetLeft());
        crawl.pass(1);
        Check.due("budgetLeft at 100000", 20, crawl.budgetLeft());
    }

    /** "Returns the ticks, 0 if one may be visited now": one tick before, and from then on. */
    static void promise24ZeroIfOneMayBeVisitedNow() {
        Politecrawl crawl = Make.onePage();
        Check.due("waiting at 0", 0, crawl.waiting());
        crawl.visit(0, Politecrawl.CHANGED);
        Check.due("waiting behind a visit", 15, crawl.waiting());
        crawl.pass(14);
        Check.due("waiting at 14", 1, crawl.waiting());
        crawl.pass(1);
        Check.due("waiting at 15", 0, crawl.waiting());
        crawl.pass(1);
        Check.due("waiting at 16", 0, crawl.waiting());
    }

    /** "[..] NONE if that will never be, as all pages are gone or lost, or there are none." */
    static void promise24NoneIfThatWillNeverBe() {
        Politecrawl crawl = new Politecrawl();
        Check.due("waiting without pages", Politecrawl.NONE, crawl.waiting());
        Make.page(crawl, 0, 9, "a/a/a");
        Check.due("waiting with a lost one", Politecrawl.NONE, crawl.waiting());
        Make.page(crawl, 0, 9, "a");
        Check.due("waiting", 0, crawl.waiting());
        crawl.visit(1, Politecrawl.GONE);
        Check.due("waiting with a gone one and a lost one", Politecrawl.NONE, crawl.waiting());
        Politecrawl other = Make.onePage();
        other.visit(0, Politecrawl.GONE);
        Check.due("waiting with a gone one", Politecrawl.NONE, other.waiting());
    }

    /** "[..] 0 if one may be visited now, also if that tick is above 100000": for the page, its host, the budget. */
    static void promise24TheTickMayBeAboveTheLastOne() {
        Politecrawl crawl = Make.onePage();
        Make.passTo(crawl, 100000);
        Check.due("waiting", 0, crawl.waiting());
        crawl.visit(0, Politecrawl.CHANGED);
        Check.due("waiting for the page", 15, crawl.waiting());
        Make.page(crawl, 0, 0, "b");
        Check.due("waiting for the host", 5, crawl.waiting());
        crawl.setBudget(1);
        Check.due("waiting for the span", 100, crawl.waiting());
    }

    /** "Returns how many ticks have to pass until some page may be visited": until the first tick of the next span. */
    static void promise24WaitsForTheNextSpan() {
        for (int tick : new int[] {0, 1, 50, 98, 99, 100, 199}) {
            Politecrawl crawl = Make.onePage();
            Make.page(crawl, 1, 0, "b");
            Make.passTo(crawl, tick);
            crawl.setBudget(1);
            crawl.visit(0, Politecrawl.GONE);
            Check.due("waiting at " + tick, 100 - tick % 100, crawl.waiting());
        }
    }

    /** "[..] until some page may be visited, if nothing else happens": just so many, not one less. */
    static void promise24SoManyTicksAndNotOneLess() {
        Politecrawl crawl = Make.busy();
        crawl.setBudget(3);
        for (int step = 0; step < 40; step++) {
            int ticks = crawl.waiting();
            Check.due("next at once", ticks == 0 ? 1 : 0, crawl.next() == Politecrawl.NONE ? 0 : 1);
            if (ticks > 1) {
                crawl.pass(ticks - 1);
                Check.due("next one tick before", Politecrawl.NONE, crawl.next());
            }
            if (ticks > 0) {
                crawl.pass(1);
            }
            Check.due("waiting then", 0, crawl.waiting());
            crawl.visit(crawl.next(), step % 3);
        }
    }
}
