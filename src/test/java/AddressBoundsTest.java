/** The bounds in promises 1 to 5: above each test the sentence of the document that it holds the class to. */
final class AddressBoundsTest {
    private static final String THIRTY = "abcdefghijklmnopqrstuvwxyzabcd";

    private AddressBoundsTest() {
    }

    /** "Creates a scheduler without pages [..]" */
    static void promise1HasNoPage() {
        Check.due("pages", 0, new Politecrawl().pages());
        Refused bare = Refused.from(Politecrawl::new);
        bare.index("setRank", crawl -> crawl.setRank(0, 0)).index("dueAt", crawl -> crawl.dueAt(0));
        bare.index("visits", crawl -> crawl.visits(0)).index("changes", crawl -> crawl.changes(0));
        bare.index("mayVisit", crawl -> crawl.mayVisit(0)).index("visit", crawl -> crawl.visit(0, 0));
        bare.index("share", crawl -> crawl.share(0, 0));
    }

    /** "[..] at tick 0": "Ticks are numbered from 0 on." */
    static void promise1IsAtTickZero() {
        Politecrawl crawl = new Politecrawl();
        Check.due("now", 0, crawl.now());
        Check.due("find", 0, crawl.find(0, 0));
        Check.due("dueAt", 0, crawl.dueAt(0));
        Check.due("pass", 1, crawl.pass(1));
    }

    /** "[..] the buffer is empty." */
    static void promise1TheBufferIsEmpty() {
        Politecrawl crawl = new Politecrawl();
        Check.due("segments", 0, crawl.segments());
        Check.fails("isTrap", crawl.isTrap());
        Check.due("find the empty address", 0, crawl.find(0, 0));
        Check.due("clearAddress", 0, crawl.clearAddress());
        Check.due("find it again", 0, crawl.find(0, 0));
    }

    /** "A host has a rest, 5 ticks at first, a number of failures, 0 at first, and a tick [..], 0 at first." */
    static void promise1HostsAtFirst() {
        for (int host = 0; host < 6; host++) {
            Politecrawl crawl = new Politecrawl();
            Check.due("failures", 0, crawl.failures(host));
            Check.due("openFrom", 0, crawl.openFrom(host));
            crawl.find(host, 0);
            Check.due("visit", 5, crawl.visit(0, Politecrawl.UNCHANGED));
            Check.due("setRest", 5, crawl.setRest(host, 1));
        }
    }

    /** "An object is used for at most 512 calls after it has been made." */
    static void promise1TheLastOfAllCallsAnswers() {
        Politecrawl crawl = new Politecrawl();
        int calls = 0;
        for (; calls < 480; calls += 2) {
            Check.due("type", 1, crawl.type('a'));
            Check.due("clearAddress", 1, crawl.clearAddress());
        }
        for (; calls < 510; calls++) {
            Check.due("type", calls - 479, crawl.type('b'));
        }
        Check.due("call 511, find", 0, crawl.find(5, 9));
        Check.due("call 512, next", 0, crawl.next());
    }

    /** "`character`: a letter a to z, or a slash"; "Throws `IllegalArgumentException` if it is another character" */
    static void promise2CharactersAreLettersAndTheSlash() {
        for (char inside : new char[] {'a', 'b', 'y', 'z', '/'}) {
            Check.due("type(" + inside + ")", 5, Make.busy().type(inside));
        }
        Refused busy = Refused.from(Make::busy);
        // Next to a, z and the slash; other cases; both ends; and those whose low byte is a letter or a slash.
        int[] outside = {'a' - 1, 'z' + 1, '/' - 1, '/' + 1, 'A', 'Z', '0', ' ', '\\', 0, 127, 224, 255, 65535,
            256 + 'a', 256 + '/', 65280 + 'z', 65313, 65345};
        for (int code : outside) {
            busy.argument("type(" + code + ")", crawl -> crawl.type((char) code));
        }
    }

    /** "Throws `IllegalStateException` if it has 30 characters": "Addresses have [..] up to 30 characters." */
    static void promise2ThirtyCharactersAreTheMost() {
        Politecrawl crawl = Make.typed(THIRTY.substring(1));
        Check.due("the 30th character", 30, crawl.type('k'));
        Refused letters = Refused.from(() -> Make.typed(THIRTY));
        letters.state("type('a')", full -> full.type('a')).state("type('/')", full -> full.type('/'));
        Refused slashes = Refused.from(() -> Make.typed("/".repeat(30)));
        slashes.state("type('a')", full -> full.type('a')).state("type('/')", full -> full.type('/'));
    }

    /** "A call that throws an exception changes nothing": the page of the full buffer is still found by it. */
    static void promise2RefusedCharactersDoNotComeIn() {
        Politecrawl crawl = Make.typed(THIRTY);
        Check.due("find", 0, crawl.find(3, 3));
        Check.throwsState("type('e')", () -> crawl.type('e'));
        Check.throwsArgument("type('E')", () -> crawl.type('E'));
        Check.due("find", 0, crawl.find(3, 3));
        Check.due("clearAddress", 30, crawl.clearAddress());
    }

    /** "[..] if several exceptions apply, the one that its throws clause names first is thrown." */
    static void promise2AnotherCharacterGoesBeforeAFullBuffer() {
        Refused full = Refused.from(() -> Make.typed(THIRTY));
        for (char other : new char[] {'A', '`', '{', '.', '0', 0, Character.MAX_VALUE}) {
            full.argument("type(" + (int) other + ")", crawl -> crawl.type(other));
        }
    }

    /** "Empties the buffer. [..] Returns how many characters it had." */
    static void promise3EmptiesAFullBufferAndAnEmptyOne() {
        Politecrawl crawl = Make.typed(THIRTY);
        Check.due("clearAddress of 30", 30, crawl.clearAddress());
        Check.due("clearAddress of 0", 0, crawl.clearAddress());
        Check.due("segments", 0, crawl.segments());
        Check.due("find the empty address", 0, crawl.find(0, 0));
        for (int count = 1; count <= 30; count++) {
            Check.due("type", count, crawl.type('/'));
        }
        Check.throwsState("type", () -> crawl.type('/'));
        Check.due("clearAddress of 30", 30, crawl.clearAddress());
    }

    /** "Only type() changes it otherwise." */
    static void promise3NoOtherCallChangesTheBuffer() {
        Refused.Call[] others = {Politecrawl::segments, Politecrawl::isTrap, crawl -> crawl.setRest(0, 9),
            crawl -> crawl.setPaces(1, 2), crawl -> crawl.setBudget(9), crawl -> crawl.failures(0),
            crawl -> crawl.openFrom(0), crawl -> crawl.find(4, 9), crawl -> crawl.find(3, 9),
            crawl -> crawl.setRank(6, 9), Politecrawl::pages, crawl -> crawl.dueAt(6), crawl -> crawl.visits(6),
            crawl -> crawl.changes(6), crawl -> crawl.mayVisit(6), Politecrawl::next, Politecrawl::nextByScan,
            crawl -> crawl.visit(6, Politecrawl.UNCHANGED), crawl -> crawl.visit(6, Politecrawl.GONE),
            crawl -> crawl.pass(1000), Politecrawl::now, Politecrawl::budgetLeft, Politecrawl::waiting,
            crawl -> crawl.share(6, 100)};
        for (Refused.Call other : others) {
            Politecrawl crawl = Make.busy();
            other.on(crawl);
            Check.due("find the page in the buffer", 6, crawl.find(4, 0));
            Check.due("segments", 2, crawl.segments());
            Check.due("type", 5, crawl.type('a'));
            Check.due("clearAddress", 5, crawl.clearAddress());
        }
    }

    /** "The segments of an address are its longest parts without slashes": none. */
    static void promise4NoSegments() {
        Check.due("empty", 0, new Politecrawl().segments());
        Check.due("one slash", 0, Make.typed("/").segments());
        Check.due("30 slashes", 0, Make.typed("/".repeat(30)).segments());
    }

    /** "The segments [..] are its longest parts [..]": one that fills the buffer, or is one letter at either end. */
    static void promise4OneSegment() {
        Check.due("30 letters", 1, Make.typed(THIRTY).segments());
        Check.due("a letter first", 1, Make.typed("a" + "/".repeat(29)).segments());
        Check.due("a letter last", 1, Make.typed("/".repeat(29) + "a").segments());
    }

    /** "Returns how many segments the address in the buffer has": as many as 30 characters can have. */
    static void promise4FifteenSegmentsAreTheMost() {
        Check.due("a slash last", 15, Make.typed("a/".repeat(15)).segments());
        Check.due("a slash first", 15, Make.typed("/b".repeat(15)).segments());
        Check.due("29 characters", 15, Make.typed("a/".repeat(14) + "a").segments());
        Check.due("28 characters", 14, Make.typed("a/".repeat(14)).segments());
    }

    /** "An address is a trap if some row of 1 [..] comes in it three times one behind the other." */
    static void promise5ARowOfOneThreeTimes() {
        Check.fails("once", Make.typed("ab").isTrap());
        Check.fails("twice", Make.typed("ab/ab").isTrap());
        Check.holds("three times", Make.typed("ab/ab/ab").isTrap());
        Check.fails("three times, not one behind the other", Make.typed("ab/ab/c/ab").isTrap());
        Check.fails("the last one shorter", Make.typed("ab/ab/a").isTrap());
        Check.fails("the last one longer", Make.typed("ab/ab/abc").isTrap());
        Check.fails("the first one longer", Make.typed("cab/ab/ab").isTrap());
    }

    /** "[..] some row of [..] 2 [..] comes in it three times one behind the other." */
    static void promise5ARowOfTwoThreeTimes() {
        Check.fails("twice", Make.typed("a/bc/a/bc").isTrap());
        Check.fails("all but the last segment", Make.typed("a/bc/a/bc/a").isTrap());
        Check.holds("three times", Make.typed("a/bc/a/bc/a/bc").isTrap());
        Check.fails("the last one shorter", Make.typed("a/bc/a/bc/a/b").isTrap());
        Check.fails("the last one longer", Make.typed("a/bc/a/bc/a/bcd").isTrap());
        Check.fails("another one between", Make.typed("a/bc/a/bc/d/a/bc").isTrap());
    }

    /** "[..] some row of [..] 3 segments comes in it three times one behind the other." */
    static void promise5ARowOfThreeThreeTimes() {
        Check.fails("twice", Make.typed("a/b/cd/a/b/cd").isTrap());
        Check.fails("all but the last segment", Make.typed("a/b/cd/a/b/cd/a/b").isTrap());
        Check.holds("three times", Make.typed("a/b/cd/a/b/cd/a/b/cd").isTrap());
        Check.fails("the last one shorter", Make.typed("a/b/cd/a/b/cd/a/b/c").isTrap());
        Check.fails("the last one longer", Make.typed("a/b/cd/a/b/cd/a/b/cde").isTrap());
        Check.fails("another one between", Make.typed("a/b/cd/a/b/cd/e/a/b/cd").isTrap());
    }

    /** "[..] some row of 1, 2 or 3 segments": longer ones are none. */
    static void promise5RowsOfFourAndFiveAreNoTraps() {
        Check.fails("a row of 4 three times", Make.typed("a/b/c/d/a/b/c/d/a/b/c/d").isTrap());
        Check.fails("a row of 5 three times", Make.typed("a/b/c/d/e/a/b/c/d/e/a/b/c/d/e").isTrap());
        Check.holds("a row of 4 with one of 1 in it", Make.typed("a/b/b/b/a/b/b/b/a/b/b/b").isTrap());
    }

    /** "Addresses have [..] up to 30 characters": a row may end, or begin, at either end of a full buffer. */
    static void promise5RowsInAFullBuffer() {
        Check.holds("a row of 1 at the end", Make.typed("wxy/cdefghij/cdefghij/cdefghij").isTrap());
        Check.holds("a row of 1 that fills it", Make.typed("/bcdefghij".repeat(3)).isTrap());
        Check.holds("a row of 2 that fills it", Make.typed("bcdef/hij/".repeat(3)).isTrap());
        Check.holds("a row of 3 that fills it", Make.typed("/bc/ef/hij".repeat(3)).isTrap());
        Check.holds("a row of 1 as the last of 15", Make.typed("a/b/c/d/e/f/g/h/i/j/k/l/m/m/m/").isTrap());
        Check.fails("a row of 1 twice as the last", Make.typed("a/b/c/d/e/f/g/h/i/j/k/l/n/m/m/").isTrap());
        Check.fails("another last letter", Make.typed("/bc/ef/hij".repeat(3).substring(0, 29) + "k").isTrap());
        Check.fails("another first letter", Make.typed("c" + "bcdef/hij/".repeat(3).substring(1)).isTrap());
    }

    /** "[..] some row [..] comes in it three times": with another letter at any one place it comes but twice. */
    static void promise5EachLetterOfARowCounts() {
        for (String trap : new String[] {"/bcdefghij".repeat(3), "bcdef/hij/".repeat(3), "/bc/ef/hij".repeat(3)}) {
            Check.holds(trap, Make.typed(trap).isTrap());
            for (int i = 0; i < trap.length(); i++) {
                if (trap.charAt(i) != '/') {
                    String other = trap.substring(0, i) + "x" + trap.substring(i + 1);
                    Check.fails(other, Make.typed(other).isTrap());
                }
            }
        }
    }

    /** "Tells whether the address in the buffer is a trap": the empty one, and those of slashes, have no segments. */
    static void promise5WithoutSegmentsThereIsNoTrap() {
        Check.fails("empty", new Politecrawl().isTrap());
        Check.fails("three slashes", Make.typed("///").isTrap());
        Check.fails("30 slashes", Make.typed("/".repeat(30)).isTrap());
    }

    /** "The segments [..] are its longest parts without slashes": slashes beside one another part as one does. */
    static void promise5MoreSlashesPartAsOne() {
        Check.holds("a row of 1", Make.typed("a" + "/".repeat(14) + "a" + "/".repeat(13) + "a").isTrap());
        Check.holds("a row of 2", Make.typed("//a///b/a//b////a/b//").isTrap());
        Check.fails("twice", Make.typed("a" + "/".repeat(28) + "a").isTrap());
    }
}
