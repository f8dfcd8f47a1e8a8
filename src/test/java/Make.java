/** Objects in the states that the tests begin with. */
final class Make {
    /** So many pages has busy(). */
    static final int BUSY_PAGES = 7;

    private Make() {
    }

    static void address(Politecrawl crawl, String address) {
        crawl.clearAddress();
        for (int i = 0; i < address.length(); i++) {
            crawl.type(address.charAt(i));
        }
    }

    static int page(Politecrawl crawl, int host, int rank, String address) {
        address(crawl, address);
        return crawl.find(host, rank);
    }

    static Politecrawl typed(String address) {
        Politecrawl crawl = new Politecrawl();
        address(crawl, address);
        return crawl;
    }

    /** A scheduler with the page 0: host 0, rank 5, address "a". */
    static Politecrawl onePage() {
        Politecrawl crawl = new Politecrawl();
        page(crawl, 0, 5, "a");
        return crawl;
    }

    /** Thirty pages, five of each host, with one letter or two each. */
    static Politecrawl allPages() {
        Politecrawl crawl = new Politecrawl();
        for (int i = 0; i < 30; i++) {
            page(crawl, i % 6, i % 10, i < 26 ? letter(i) : "z" + letter(i - 26));
        }
        return crawl;
    }

    static String letter(int number) {
        return String.valueOf((char) ('a' + number));
    }

    static void passTo(Politecrawl crawl, int tick) {
        int left = tick - crawl.now();
        while (left > 0) {
            int ticks = Math.min(1000, left);
            crawl.pass(ticks);
            left -= ticks;
        }
    }

    /**
     * A scheduler in the middle of its work at tick 133: nothing is as at first, pages of all kinds are there, and the
     * buffer still holds "x/yz", the address of page 6. The longest pace is such that a first visit already tells it.
     */
    static Politecrawl busy() {
        Politecrawl crawl = new Politecrawl();
        crawl.setRest(2, 9);
        crawl.setPaces(7, 20);
        crawl.setBudget(6);
        page(crawl, 0, 5, "a");
        page(crawl, 1, 9, "a");
        page(crawl, 2, 0, "b/b/b");
        page(crawl, 2, 3, "c");
        page(crawl, 3, 3, "d");
        page(crawl, 5, 8, "");
        crawl.visit(0, Politecrawl.CHANGED);
        crawl.visit(1, Politecrawl.FAILED);
        crawl.visit(3, Politecrawl.UNCHANGED);
        crawl.visit(4, Politecrawl.GONE);
        crawl.pass(130);
        crawl.visit(0, Politecrawl.UNCHANGED);
        crawl.visit(5, Politecrawl.FAILED);
        crawl.pass(3);
        page(crawl, 4, 6, "x/yz");
        return crawl;
    }
}
