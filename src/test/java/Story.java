import java.util.ArrayList;
import java.util.List;
import java.util.function.IntSupplier;

/**
 * What a scheduler answers from here on, call by call: all that can be asked of it, then what has to be changed to be
 * asked, then a stretch of its future. Two schedulers in the same state tell the same story.
 */
final class Story {
    /** With the dearest of the starts in Make and 30 pages, all this stays within an object's 512 calls. */
    private static final int STEPS_OF_THE_FUTURE = 25;

    private final Politecrawl crawl;
    private final List<String> lines = new ArrayList<>();

    private Story(Politecrawl crawl) {
        this.crawl = crawl;
    }

    static List<String> of(Politecrawl crawl) {
        Story story = new Story(crawl);
        story.askOfAll();
        for (int host = 0; host < 6; host++) {
            story.askOfHost(host);
        }
        int pages = crawl.pages();
        for (int page = 0; page < pages; page++) {
            story.askOfPage(page);
        }
        story.askOfBuffer();
        for (int step = 0; step < STEPS_OF_THE_FUTURE; step++) {
            story.goOn(step);
        }
        return story.lines;
    }

    /** Fails where two stories part. */
    static void same(String where, List<String> due, List<String> got) {
        for (int i = 0; i < due.size(); i++) {
            String line = i < got.size() ? got.get(i) : "nothing";
            if (!due.get(i).equals(line)) {
                throw new AssertionError(where + ": " + line + ", due is " + due.get(i));
            }
        }
        Check.due("lines told " + where, due.size(), got.size());
    }

    private int tell(String call, IntSupplier made) {
        int answer = 0;
        try {
            answer = made.getAsInt();
            lines.add(call + " answers " + answer);
        } catch (RuntimeException thrown) {
            lines.add(call + " throws " + thrown.getClass().getSimpleName());
        }
        return answer;
    }

    private void askOfAll() {
        tell("now()", crawl::now);
        tell("pages()", crawl::pages);
        tell("budgetLeft()", crawl::budgetLeft);
        tell("next()", crawl::next);
        tell("nextByScan()", crawl::nextByScan);
        tell("waiting()", crawl::waiting);
        crawl.setBudget(tell("setBudget(1)", () -> crawl.setBudget(1)));
    }

    private void askOfHost(int host) {
        tell("failures(" + host + ")", () -> crawl.failures(host));
        tell("openFrom(" + host + ")", () -> crawl.openFrom(host));
        crawl.setRest(host, tell("setRest(" + host + ", 1)", () -> crawl.setRest(host, 1)));
    }

    private void askOfPage(int page) {
        tell("dueAt(" + page + ")", () -> crawl.dueAt(page));
        tell("visits(" + page + ")", () -> crawl.visits(page));
        tell("changes(" + page + ")", () -> crawl.changes(page));
        tell("mayVisit(" + page + ")", () -> crawl.mayVisit(page) ? 1 : 0);
        tell("share(" + page + ", 50)", () -> crawl.share(page, 50));
        crawl.setRank(page, tell("setRank(" + page + ", 0)", () -> crawl.setRank(page, 0)));
    }

    /** Which page is found tells the characters in the buffer, if a page has them. */
    private void askOfBuffer() {
        tell("segments()", crawl::segments);
        tell("isTrap()", () -> crawl.isTrap() ? 1 : 0);
        for (int host = 0; host < 6; host++) {
            int asked = host;
            tell("find(" + host + ", 0)", () -> crawl.find(asked, 0));
        }
        tell("clearAddress()", crawl::clearAddress);
    }

    /** Failed visits tell the shortest pace, the others the longest. */
    private void goOn(int step) {
        int page = tell("next()", crawl::next);
        if (page == Politecrawl.NONE) {
            int ticks = tell("waiting()", crawl::waiting);
            tell("pass(" + ticks + ")", () -> crawl.pass(ticks));
            return;
        }
        int outcome = step % 3;
        tell("visit(" + page + ", " + outcome + ")", () -> crawl.visit(page, outcome));
        tell("dueAt(" + page + ")", () -> crawl.dueAt(page));
    }
}
