/** Objects in the states that the tests begin with. */
final class Make {
    private Make() {
    }

    static void address(Politecrawl crawl, String address) {
        crawl.clearAddress();
        for (int i = 0; i < address.length(); i++) {
            crawl.type(address.charAt(i));
        }
    }

    static int page(Politecrawl crawl, int host, int rank, String address) {
        address(crawl, address);
        return crawl.find(host, rank);
    }

    static Politecrawl typed(String address) {
        Politecrawl crawl = new Politecrawl();
        address(crawl, address);
        return crawl;
    }

    /** A scheduler with the page 0: host 0, rank 5, address "a". */
    static Politecrawl onePage() {
        Politecrawl crawl = new Politecrawl();
        page(crawl, 0, 5, "a");
        return crawl;
    }

    /** Thirty pages, five of each host, with one letter or two each. */
    static Politecrawl allPages() {
        Politecrawl crawl = new Politecrawl();
        for (int i = 0; i < 30; i++) {
            page(crawl, i % 6, i % 10, i < 26 ? letter(i) : "z" + letter(i - 26));
        }
        return crawl;
    }

    static String letter(int number) {
        return String.valueOf((char) ('a' + number));
    }

    static void passTo(Politecrawl crawl, int tick) {
        while (crawl.now() < tick) {
            crawl.pass(Math.min(1000, tick - crawl.now()));
        }
    }

    /** Everything that can be asked of a scheduler, in one text. */
    static String stateOf(Politecrawl crawl) {
        StringBuilder state = new StringBuilder();
        state.append(crawl.segments()).append(' ').append(crawl.isTrap()).append(' ').append(crawl.now());
        state.append(" left ").append(crawl.budgetLeft()).append(" next ").append(crawl.next());
        state.append(' ').append(crawl.nextByScan()).append(" waiting ").append(crawl.waiting());
        for (int host = 0; host < 6; host++) {
            state.append(" host ").append(crawl.failures(host)).append(' ').append(crawl.openFrom(host));
        }
        for (int page = 0; page < crawl.pages(); page++) {
            state.append(" page ").append(crawl.dueAt(page)).append(' ').append(crawl.visits(page));
            state.append(' ').append(crawl.changes(page)).append(' ').append(crawl.mayVisit(page));
            state.append(' ').append(crawl.share(page, 7)).append(' ').append(crawl.share(page, 100));
        }
        return state.toString();
    }
}
