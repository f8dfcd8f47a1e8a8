import java.util.ArrayList;
import java.util.List;
import java.util.function.ToIntFunction;

/** What the document says of the whole and in its terms, promised by no call alone: above each test its sentence. */
final class WholeTest {
    private WholeTest() {
    }

    /** "[..] hosts rest between visits, longer when visits fail [..]": counted tick by tick. */
    static void hostsRestLongerWhenVisitsFail() {
        int[] rests = {5, 10, 20, 40, 80, 160};
        for (int failures = 0; failures < rests.length; failures++) {
            Politecrawl crawl = Make.onePage();
            Make.page(crawl, 0, 0, "b");
            for (int failed = 0; failed < failures; failed++) {
                crawl.pass(200);
                crawl.visit(0, Politecrawl.FAILED);
            }
            if (failures == 0) {
                crawl.visit(0, Politecrawl.UNCHANGED);
            }
            int ticks = 0;
            while (ticks <= 200 && !crawl.mayVisit(1)) {
                crawl.pass(1);
                ticks++;
            }
            Check.due("ticks of rest behind failures " + failures, rests[failures], ticks);
        }
    }

    /** "[..] pages are due by how often they were found changed [..]": of three visits none to all. */
    static void pagesAreDueByHowOftenTheyWereFoundChanged() {
        int[] paces = {50, 25, 17, 13};
        for (int changed = 0; changed < paces.length; changed++) {
            Politecrawl crawl = Make.onePage();
            for (int visit = 1; visit <= 3; visit++) {
                crawl.pass(100);
                crawl.visit(0, visit <= changed ? Politecrawl.CHANGED : Politecrawl.UNCHANGED);
            }
            Check.due("dueAt behind changes " + changed, 300 + paces[changed], crawl.dueAt(0));
        }
    }

    /** "[..] ranks and ages tell which due page goes first [..]" */
    static void ranksAndAgesTellWhichGoesFirst() {
        Politecrawl crawl = new Politecrawl();
        Make.page(crawl, 0, 1, "a");
        Make.page(crawl, 1, 2, "b");
        Check.due("next by rank", 1, crawl.next());
        crawl.pass(25);
        Make.page(crawl, 2, 4, "c");
        Check.due("next by rank and age", 1, crawl.next());
        crawl.setRank(1, 1);
        Check.due("next by rank and age, of two as old", 2, crawl.next());
        crawl.setRank(2, 3);
        Check.due("next by age", 0, crawl.next());
    }

    /** "[..] a budget bounds the visits of a span [..]": pages and hosts would let more be made. */
    static void aBudgetBoundsTheVisitsOfASpan() {
        Politecrawl crawl = new Politecrawl();
        crawl.setBudget(7);
        crawl.setPaces(1, 1);
        for (int host = 0; host < 6; host++) {
            crawl.setRest(host, 1);
            crawl.find(host, 0);
        }
        int[] made = new int[4];
        // A step is five calls at the most, so that all stay within an object's 512 calls.
        for (int step = 0; step < 90 && crawl.now() < 400; step++) {
            if (crawl.waiting() > 0) {
                crawl.pass(crawl.waiting());
            } else {
                made[crawl.now() / 100]++;
                crawl.visit(crawl.next(), Politecrawl.UNCHANGED);
            }
        }
        for (int span = 0; span < made.length; span++) {
            Check.due("visits of span " + span, 7, made[span]);
        }
    }

    /** "[..] addresses that repeat themselves are traps [..]": pages there are lost. */
    static void addressesThatRepeatThemselvesAreTraps() {
        Politecrawl crawl = new Politecrawl();
        String[] addresses = {"ab/cd", "ab/ab/ab", "ab/cd/ab/cd/ab/cd", "ab/cd/ef/ab/cd/ef/ab/cd/ef", "ab/ab"};
        for (int page = 0; page < addresses.length; page++) {
            boolean trap = page >= 1 && page <= 3;
            Make.page(crawl, page, 9, addresses[page]);
            Check.due("isTrap of " + addresses[page], trap ? 1 : 0, crawl.isTrap() ? 1 : 0);
            Check.due("mayVisit " + addresses[page], trap ? 0 : 1, crawl.mayVisit(page) ? 1 : 0);
        }
    }

    /** What visits of three pages are worth together, as a fraction: above and below the line. */
    private static long[] worth(int[] ranks, int[] changes, int... visits) {
        long above = 0;
        long below = 1;
        for (int page = 0; page < visits.length; page++) {
            long parts = visits[page] + changes[page] + 1;
            above = above * parts + (ranks[page] + 1L) * visits[page] * below;
            below = below * parts;
        }
        return new long[] {above, below};
    }

    /** "[..] visits can be spread so that they are worth the most": of all spreads none is worth more. */
    static void visitsAreSpreadSoThatTheyAreWorthTheMost() {
        int[] ranks = {4, 9, 2};
        int[] changes = {0, 3, 1};
        Politecrawl crawl = new Politecrawl();
        for (int page = 0; page < 3; page++) {
            crawl.find(page, ranks[page]);
            for (int change = 0; change < changes[page]; change++) {
                crawl.pass(100);
                crawl.visit(page, Politecrawl.CHANGED);
            }
        }
        for (int visits = 0; visits <= 20; visits++) {
            int[] shares = {crawl.share(0, visits), crawl.share(1, visits), crawl.share(2, visits)};
            Check.due("all shares of " + visits, visits, shares[0] + shares[1] + shares[2]);
            long[] got = worth(ranks, changes, shares);
            for (int first = 0; first <= visits; first++) {
                for (int second = 0; first + second <= visits; second++) {
                    long[] other = worth(ranks, changes, first, second, visits - first - second);
                    Check.fails("a spread of " + visits + " worth more", other[0] * got[1] > got[0] * other[1]);
                }
            }
        }
    }

    /** "An object is used for at most 512 calls after it has been made": all of them the same one, behind find. */
    private static void answersUpToTheLastCall(String name, int due, ToIntFunction<Politecrawl> call) {
        Politecrawl crawl = new Politecrawl();
        crawl.find(0, 5);
        for (int calls = 2; calls <= 512; calls++) {
            Check.due(name + " as call " + calls, due, call.applyAsInt(crawl));
        }
    }

    /** "An object is used for at most 512 calls after it has been made [..]": each call that answers the same. */
    static void eachCallAnswersUpToTheLastOne() {
        answersUpToTheLastCall("clearAddress", 0, Politecrawl::clearAddress);
        answersUpToTheLastCall("segments", 0, Politecrawl::segments);
        answersUpToTheLastCall("isTrap", 0, crawl -> crawl.isTrap() ? 1 : 0);
        answersUpToTheLastCall("setRest", 5, crawl -> crawl.setRest(5, 5));
        answersUpToTheLastCall("setBudget", 20, crawl -> crawl.setBudget(20));
        answersUpToTheLastCall("failures", 0, crawl -> crawl.failures(0));
        answersUpToTheLastCall("openFrom", 0, crawl -> crawl.openFrom(0));
        answersUpToTheLastCall("find", 0, crawl -> crawl.find(0, 9));
        answersUpToTheLastCall("setRank", 5, crawl -> crawl.setRank(0, 5));
        answersUpToTheLastCall("pages", 1, Politecrawl::pages);
        answersUpToTheLastCall("dueAt", 0, crawl -> crawl.dueAt(0));
        answersUpToTheLastCall("visits", 0, crawl -> crawl.visits(0));
        answersUpToTheLastCall("changes", 0, crawl -> crawl.changes(0));
        answersUpToTheLastCall("mayVisit", 1, crawl -> crawl.mayVisit(0) ? 1 : 0);
        answersUpToTheLastCall("next", 0, Politecrawl::next);
        answersUpToTheLastCall("nextByScan", 0, Politecrawl::nextByScan);
        answersUpToTheLastCall("now", 0, Politecrawl::now);
        answersUpToTheLastCall("budgetLeft", 20, Politecrawl::budgetLeft);
        answersUpToTheLastCall("waiting", 0, Politecrawl::waiting);
        answersUpToTheLastCall("share", 100, crawl -> crawl.share(0, 100));
    }

    /** "An object is used for at most 512 calls after it has been made [..]": half of them visits, half passes. */
    static void visitsAreMadeUpToTheLastCall() {
        Politecrawl crawl = new Politecrawl();
        crawl.find(0, 0);
        crawl.setBudget(100);
        crawl.setRest(0, 1);
        crawl.setPaces(1, 1);
        for (int made = 1; made <= 253; made++) {
            Check.due("visit " + made, made, crawl.visit(0, Politecrawl.CHANGED));
            Check.due("pass " + made, made, crawl.pass(1));
        }
        Check.due("call 511, visits", 253, crawl.visits(0));
        Check.due("call 512, changes", 253, crawl.changes(0));
    }

    /**
     * "Addresses are typed into a buffer; pages are found, visited and lost, ticks pass, and the next visit, waits and
     * spreads are asked."
     */
    static void allThisIsDoneAndAsked() {
        Politecrawl crawl = new Politecrawl();
        Check.due("type", 1, crawl.type('a'));
        Check.due("find", 0, crawl.find(0, 5));
        Check.due("visit", 5, crawl.visit(0, Politecrawl.GONE));
        crawl.type('/');
        crawl.type('a');
        Check.due("find another", 1, crawl.find(0, 1));
        crawl.type('/');
        Check.due("type", 5, crawl.type('a'));
        Check.due("find one lost", 2, crawl.find(1, 9));
        Check.due("next", Politecrawl.NONE, crawl.next());
        Check.due("waiting", 5, crawl.waiting());
        Check.due("pass", 5, crawl.pass(5));
        Check.due("next", 1, crawl.next());
        Check.sharesAre(crawl, 9, 0, 9, 0);
    }

    /** "Pages are numbered from 0 in the order in which they are found": not by host, rank, address or tick. */
    static void pagesAreNumberedInTheOrderInWhichTheyAreFound() {
        Politecrawl crawl = new Politecrawl();
        Check.due("find", 0, Make.page(crawl, 5, 0, "z"));
        Check.due("find", 1, Make.page(crawl, 0, 9, "a/a/a"));
        crawl.pass(7);
        Check.due("find", 2, Make.page(crawl, 5, 9, "b"));
        crawl.visit(0, Politecrawl.GONE);
        Check.due("find behind a gone one", 3, Make.page(crawl, 0, 4, ""));
        Check.due("find the first one again", 0, Make.page(crawl, 5, 1, "z"));
        Check.due("find", 4, Make.page(crawl, 3, 4, ""));
    }

    /** "It may be gone; and it may be lost in a trap, if its address is one": its own, not that in the buffer. */
    static void aPageIsLostByItsOwnAddress() {
        Politecrawl crawl = new Politecrawl();
        Make.page(crawl, 0, 1, "a/b/a/b/a/b");
        Make.page(crawl, 1, 1, "a/b/a/b/a/");
        crawl.type('b');
        Check.holds("isTrap", crawl.isTrap());
        Check.due("dueAt of one with a trap in the buffer", 0, crawl.dueAt(1));
        Check.holds("mayVisit with a trap in the buffer", crawl.mayVisit(1));
        Check.due("next with a trap in the buffer", 1, crawl.next());
        crawl.clearAddress();
        Check.fails("isTrap", crawl.isTrap());
        Check.due("dueAt of a lost one with no trap in the buffer", Politecrawl.NONE, crawl.dueAt(0));
        Check.fails("mayVisit a lost one with no trap in the buffer", crawl.mayVisit(0));
        crawl.visit(1, Politecrawl.GONE);
        Check.due("waiting", Politecrawl.NONE, crawl.waiting());
    }

    /** "[..] and the ticks since it was due": not since it was found, nor since it was visited. */
    static void agesCountFromTheTickAtWhichAPageIsDue() {
        Politecrawl crawl = Make.onePage();
        crawl.setRank(0, 0);
        crawl.visit(0, Politecrawl.FAILED);
        crawl.pass(20);
        Make.page(crawl, 1, 1, "b");
        Check.due("next of equal pressing", 1, crawl.next());
        Check.due("nextByScan of equal pressing", 1, crawl.nextByScan());
        crawl.setRank(1, 0);
        Check.due("next", 0, crawl.next());
        Check.due("nextByScan", 0, crawl.nextByScan());
    }

    private static Politecrawl busyBehind(Refused.Call... calls) {
        Politecrawl crawl = Make.busy();
        for (Refused.Call call : calls) {
            call.on(crawl);
        }
        return crawl;
    }

    /** Looked at twice, for what one look asks first, another call may have hidden from the other. */
    private static void changesNothing(String name, Refused.Call... calls) {
        Story.same("behind " + name, Story.of(Make.busy()), Story.of(busyBehind(calls)));
        boolean same = stateBut(Make.busy(), -1, -1).equals(stateBut(busyBehind(calls), -1, -1));
        Check.holds("the same behind " + name, same);
    }

    /** "Nothing is promised beyond the answers and state changes described above": calls that ask change nothing. */
    static void askingChangesNothing() {
        changesNothing("segments", Politecrawl::segments);
        changesNothing("isTrap", Politecrawl::isTrap);
        changesNothing("pages", Politecrawl::pages);
        changesNothing("next", Politecrawl::next);
        changesNothing("nextByScan", Politecrawl::nextByScan);
        changesNothing("next of a low rank", crawl -> crawl.setRank(1, 0), Politecrawl::next,
            Politecrawl::nextByScan, crawl -> crawl.setRank(1, 9));
        changesNothing("now", Politecrawl::now);
        changesNothing("budgetLeft", Politecrawl::budgetLeft);
        changesNothing("waiting", Politecrawl::waiting);
        for (int host = 0; host < 6; host++) {
            int asked = host;
            changesNothing("failures", crawl -> crawl.failures(asked));
            changesNothing("openFrom", crawl -> crawl.openFrom(asked));
        }
        for (int page = 0; page < Make.BUSY_PAGES; page++) {
            int asked = page;
            changesNothing("dueAt", crawl -> crawl.dueAt(asked));
            changesNothing("visits", crawl -> crawl.visits(asked));
            changesNothing("changes", crawl -> crawl.changes(asked));
            changesNothing("mayVisit", crawl -> crawl.mayVisit(asked));
            changesNothing("share", crawl -> crawl.share(asked, 100), crawl -> crawl.share(asked, 0));
        }
        changesNothing("find of a known page", crawl -> crawl.find(4, 0), crawl -> crawl.find(4, 9));
    }

    /** "[..] state changes described above": what is set back, or typed again, is as it was, and so is all else. */
    static void settingBackLeavesAllAsItWas() {
        changesNothing("setRest", crawl -> crawl.setRest(2, 50), crawl -> crawl.setRest(2, 9));
        changesNothing("setPaces", crawl -> crawl.setPaces(1000, 5000), crawl -> crawl.setPaces(7, 20));
        changesNothing("setBudget", crawl -> crawl.setBudget(1), crawl -> crawl.setBudget(100),
            crawl -> crawl.setBudget(6));
        changesNothing("setRank", crawl -> crawl.setRank(6, 0), crawl -> crawl.setRank(6, 6));
        changesNothing("type", Politecrawl::clearAddress, crawl -> crawl.type('x'), crawl -> crawl.type('/'),
            crawl -> crawl.type('y'), crawl -> crawl.type('z'));
    }

    /** All that is kept of pages and hosts, but for one of each. */
    private static List<Integer> stateBut(Politecrawl crawl, int page, int host) {
        List<Integer> state = new ArrayList<>();
        for (int i = 0; i < crawl.pages(); i++) {
            if (i != page) {
                state.addAll(List.of(crawl.dueAt(i), crawl.visits(i), crawl.changes(i), crawl.setRank(i, 4)));
            }
        }
        for (int i = 0; i < 6; i++) {
            state.add(crawl.setRest(i, 3));
            if (i != host) {
                state.addAll(List.of(crawl.failures(i), crawl.openFrom(i)));
            }
        }
        state.addAll(List.of(crawl.setBudget(1), crawl.pages(), crawl.segments(), crawl.clearAddress()));
        return state;
    }

    /** "Visits a page": no other page, of its host or another, and no other host; neither rests nor ranks nor ticks. */
    static void aVisitChangesItsPageAndItsHostAlone() {
        List<Integer> due = stateBut(Make.busy(), 6, 4);
        List<Integer> dueOfAll = stateBut(Make.allPages(), 13, 1);
        for (int outcome = 0; outcome <= 3; outcome++) {
            Politecrawl crawl = Make.busy();
            crawl.visit(6, outcome);
            Check.due("now behind visit", 133, crawl.now());
            Check.due("the rank behind visit", 6, crawl.setRank(6, 6));
            Check.holds("the same behind visit with " + outcome, due.equals(stateBut(crawl, 6, 4)));
            Politecrawl all = Make.allPages();
            all.visit(13, outcome);
            Check.due("the rank behind visit", 3, all.setRank(13, 3));
            Check.holds("the same of all pages behind " + outcome, dueOfAll.equals(stateBut(all, 13, 1)));
        }
    }

    /** "Lets ticks pass": nothing of pages, hosts, the budget or the buffer. */
    static void passingChangesTheTickAlone() {
        List<Integer> due = stateBut(Make.busy(), -1, -1);
        for (int ticks : new int[] {1, 66, 67, 1000}) {
            Politecrawl crawl = Make.busy();
            crawl.pass(ticks);
            Check.due("now", 133 + ticks, crawl.now());
            Check.holds("the same behind pass(" + ticks + ")", due.equals(stateBut(crawl, -1, -1)));
        }
    }

    /** "Creates a scheduler [..]": one of its own, whatever is done with others before it and beside it. */
    static void objectsKnowNothingOfOneAnother() {
        List<String> due = Story.of(new Politecrawl());
        List<String> dueOfBusy = Story.of(Make.busy());
        Politecrawl before = Make.busy();
        Politecrawl fresh = new Politecrawl();
        Politecrawl beside = Make.allPages();
        beside.setRest(2, 77);
        beside.setPaces(3, 9);
        beside.visit(beside.next(), Politecrawl.FAILED);
        beside.pass(500);
        Story.same("beside others", due, Story.of(fresh));
        Story.same("beside others", dueOfBusy, Story.of(before));
    }
}
