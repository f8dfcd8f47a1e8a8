/** Promises 1 to 5: a new object, and the addresses in the buffer. */
final class AddressTest {
    private AddressTest() {
    }

    static void promise1NewObjectHasNothing() {
        Politecrawl crawl = new Politecrawl();
        Check.due("pages", 0, crawl.pages());
        Check.due("now", 0, crawl.now());
        Check.due("segments", 0, crawl.segments());
        Check.due("clearAddress", 0, crawl.clearAddress());
        Check.due("next", Politecrawl.NONE, crawl.next());
        Check.due("nextByScan", Politecrawl.NONE, crawl.nextByScan());
        Check.due("waiting", Politecrawl.NONE, crawl.waiting());
        Check.due("budgetLeft", 20, crawl.budgetLeft());
        Check.due("setBudget", 20, crawl.setBudget(20));
        for (int host = 0; host < 6; host++) {
            Check.due("failures", 0, crawl.failures(host));
            Check.due("openFrom", 0, crawl.openFrom(host));
            Check.due("setRest", 5, crawl.setRest(host, 5));
        }
    }

    static void promise1ObjectsAreApart() {
        Politecrawl one = Make.onePage();
        one.visit(0, Politecrawl.FAILED);
        one.setRest(0, 50);
        Politecrawl other = new Politecrawl();
        Check.due("pages", 0, other.pages());
        Check.due("openFrom", 0, other.openFrom(0));
        Check.due("setRest", 5, other.setRest(0, 5));
        Check.due("clearAddress", 0, other.clearAddress());
    }

    static void promise2TypeCountsCharacters() {
        Politecrawl crawl = new Politecrawl();
        Check.due("type", 1, crawl.type('a'));
        Check.due("type", 2, crawl.type('/'));
        Check.due("type", 3, crawl.type('z'));
        Check.due("type", 4, crawl.type('/'));
        Check.due("type", 5, crawl.type('/'));
    }

    static void promise2TypeTakesEveryLetterAndTheSlashOnly() {
        for (int code = 0; code <= Character.MAX_VALUE; code++) {
            char character = (char) code;
            Politecrawl crawl = new Politecrawl();
            boolean due = character >= 'a' && character <= 'z' || character == '/';
            if (due) {
                Check.due("type(" + code + ")", 1, crawl.type(character));
            } else {
                Check.throwsArgument("type(" + code + ")", () -> crawl.type(character));
                Check.due("clearAddress", 0, crawl.clearAddress());
            }
        }
    }

    static void promise3ClearEmpties() {
        Politecrawl crawl = Make.typed("a/a/a");
        Check.due("clearAddress", 5, crawl.clearAddress());
        Check.due("clearAddress", 0, crawl.clearAddress());
        Check.due("segments", 0, crawl.segments());
        Check.fails("isTrap", crawl.isTrap());
        Check.due("type", 1, crawl.type('a'));
        Check.due("segments", 1, crawl.segments());
    }

    static void promise4SegmentsAreLongestPartsWithoutSlashes() {
        Check.due("empty", 0, Make.typed("").segments());
        Check.due("/", 0, Make.typed("/").segments());
        Check.due("////", 0, Make.typed("////").segments());
        Check.due("a", 1, Make.typed("a").segments());
        Check.due("abc", 1, Make.typed("abc").segments());
        Check.due("/abc", 1, Make.typed("/abc").segments());
        Check.due("abc/", 1, Make.typed("abc/").segments());
        Check.due("a/b", 2, Make.typed("a/b").segments());
        Check.due("//q//r/", 2, Make.typed("//q//r/").segments());
        Check.due("ab/c/def/gh", 4, Make.typed("ab/c/def/gh").segments());
        Check.due("30 letters", 1, Make.typed("abcdefghijklmnopqrstuvwxyzabcd").segments());
    }

    static void promise5RowOfOneThrice() {
        Check.holds("a/a/a", Make.typed("a/a/a").isTrap());
        Check.holds("/a//a/a///", Make.typed("/a//a/a///").isTrap());
        Check.holds("x/ab/ab/ab/y", Make.typed("x/ab/ab/ab/y").isTrap());
        Check.holds("a/a/a/a", Make.typed("a/a/a/a").isTrap());
        Check.holds("a//a//a", Make.typed("a//a//a").isTrap());
        Check.fails("a/a", Make.typed("a/a").isTrap());
        Check.fails("a/a/b/a", Make.typed("a/a/b/a").isTrap());
        Check.fails("a/a/b/c/c", Make.typed("a/a/b/c/c").isTrap());
        Check.fails("aaa", Make.typed("aaa").isTrap());
        Check.fails("a/a/ab", Make.typed("a/a/ab").isTrap());
        Check.fails("ab/a/a", Make.typed("ab/a/a").isTrap());
        Check.fails("a/a/ba", Make.typed("a/a/ba").isTrap());
        Check.fails("a/aa/a", Make.typed("a/aa/a").isTrap());
        Check.fails("aaa/aa/a", Make.typed("aaa/aa/a").isTrap());
        Check.fails("empty", new Politecrawl().isTrap());
        Check.fails("///", Make.typed("///").isTrap());
    }

    static void promise5RowOfTwoThrice() {
        Check.holds("a/b/a/b/a/b", Make.typed("a/b/a/b/a/b").isTrap());
        Check.holds("b/a/b/a/b/a/a", Make.typed("b/a/b/a/b/a/a").isTrap());
        Check.holds("y/x/ab/c/ab/c/ab/c", Make.typed("y/x/ab/c/ab/c/ab/c").isTrap());
        Check.fails("a/b/a/b/a", Make.typed("a/b/a/b/a").isTrap());
        Check.fails("a/b/a/b/b/a/b", Make.typed("a/b/a/b/b/a/b").isTrap());
        Check.fails("a/b/a/b/c/a/b", Make.typed("a/b/a/b/c/a/b").isTrap());
    }

    static void promise5RowOfThreeThrice() {
        Check.holds("ab/c/d thrice", Make.typed("ab/c/d/ab/c/d/ab/c/d").isTrap());
        Check.holds("30 characters", Make.typed("aa/bb/c/aa//bb/c/aa/bb/c//////").isTrap());
        Check.holds("behind others", Make.typed("q/r/a/b/c/a/b/c/a/b/c").isTrap());
        Check.fails("all but the last", Make.typed("a/b/c/a/b/c/a/b").isTrap());
        Check.fails("another at last", Make.typed("a/b/c/a/b/c/a/b/d").isTrap());
    }

    static void promise5TypingOnMayUndoATrap() {
        Politecrawl crawl = Make.typed("x/a/a/a");
        Check.holds("x/a/a/a", crawl.isTrap());
        crawl.type('b');
        Check.fails("x/a/a/ab", crawl.isTrap());
    }
}
