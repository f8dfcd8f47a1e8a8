import java.util.function.IntSupplier;

/** Long runs of calls, drawn by a counter of its own, so that they are the same each time; Model says what is due. */
final class RandomRunsTest {
    /** Behind its 512th call an object may answer anything; no step makes more than three calls. */
    private static final int LAST_STEP_FROM = 509;
    private static final int[] ODD = {-1, 6, 10, 30, 31, 100, 101, 1000, 1001, 5000, 5001, Integer.MIN_VALUE,
        Integer.MAX_VALUE, 0, 1, 4, 5, 9, 29};

    private long seed;
    private final Politecrawl crawl = new Politecrawl();
    private final Model model = new Model();
    private final StringBuilder story = new StringBuilder();
    private int calls;

    private RandomRunsTest(long seed) {
        this.seed = seed * 2862933555777941757L + 3037000493L;
    }

    /** Runs of all sorts; a leaning makes visits, new pages, long waits or wrong inputs more frequent. */
    static void allPromisesInRandomRuns() {
        for (int leaning = 0; leaning < 4; leaning++) {
            for (int run = 0; run < 150; run++) {
                new RandomRunsTest(1000L * leaning + run).run(leaning);
            }
        }
    }

    private int below(int bound) {
        seed = seed * 6364136223846793005L + 1442695040888963407L;
        return (int) ((seed >>> 33) % bound);
    }

    private int odd(int ordinaryBelow, int oddness) {
        return below(100) < oddness ? ODD[below(ODD.length)] : below(ordinaryBelow);
    }

    private void run(int leaning) {
        int oddness = leaning == 3 ? 40 : 3;
        while (calls <= LAST_STEP_FROM) {
            step(leaning, oddness);
        }
    }

    private void step(int leaning, int oddness) {
        int drawn = below(100);
        if (drawn < 25) {
            visitSome(oddness);
        } else if (drawn < 35) {
            passSome(leaning, oddness);
        } else if (drawn < (leaning == 1 ? 75 : 50)) {
            findSome(leaning, oddness);
        } else if (drawn < 60) {
            setSome(oddness);
        } else {
            askSome(oddness);
        }
    }

    private void visitSome(int oddness) {
        same("next()", crawl::next, model::next);
        int page = model.next() >= 0 && below(4) > 0 ? model.next() : drawnPage(oddness);
        int drawn = below(10);
        int outcome = drawn < 4 ? 1 : drawn < 6 ? 0 : drawn < 9 ? 2 : below(3) == 0 ? 3 : odd(4, oddness);
        same("visit(" + page + ", " + outcome + ")", () -> crawl.visit(page, outcome),
            () -> model.visit(page, outcome));
    }

    private void passSome(int leaning, int oddness) {
        same("waiting()", crawl::waiting, model::waiting);
        int waits = model.waiting();
        int ticks = waits > 0 && waits <= 1000 && below(3) > 0 ? waits - below(2)
            : odd(leaning == 2 ? 1000 : 40, oddness);
        same("pass(" + ticks + ")", () -> crawl.pass(ticks), () -> model.pass(ticks));
    }

    private void findSome(int leaning, int oddness) {
        int drawn = below(10);
        if (drawn < 2) {
            same("clearAddress()", crawl::clearAddress, model::clearAddress);
        } else if (drawn < 7) {
            char character = below(100) < oddness ? (char) below(200) : "//ab/c".charAt(below(leaning == 1 ? 4 : 6));
            same("type(" + (int) character + ")", () -> crawl.type(character), () -> model.type(character));
        } else {
            int host = odd(6, oddness);
            int rank = odd(10, oddness);
            same("find(" + host + ", " + rank + ")", () -> crawl.find(host, rank), () -> model.find(host, rank));
        }
    }

    private void setSome(int oddness) {
        int kind = below(4);
        if (kind == 0) {
            int host = odd(6, oddness);
            int rest = odd(30, oddness);
            same("setRest(" + host + ", " + rest + ")", () -> crawl.setRest(host, rest),
                () -> model.setRest(host, rest));
        } else if (kind == 1) {
            int shortest = odd(50, oddness);
            int longest = odd(600, oddness);
            same("setPaces(" + shortest + ", " + longest + ")", () -> nothing(crawl, shortest, longest),
                () -> nothing(model, shortest, longest));
        } else if (kind == 2) {
            int budget = odd(12, oddness);
            same("setBudget(" + budget + ")", () -> crawl.setBudget(budget), () -> model.setBudget(budget));
        } else {
            int page = drawnPage(oddness);
            int rank = odd(10, oddness);
            same("setRank(" + page + ", " + rank + ")", () -> crawl.setRank(page, rank),
                () -> model.setRank(page, rank));
        }
    }

    private static int nothing(Politecrawl crawl, int shortest, int longest) {
        crawl.setPaces(shortest, longest);
        return 0;
    }

    private static int nothing(Model model, int shortest, int longest) {
        model.setPaces(shortest, longest);
        return 0;
    }

    private int drawnPage(int oddness) {
        return odd(Math.max(1, model.pages()), oddness);
    }

    private void askSome(int oddness) {
        switch (below(4)) {
            case 0 -> askPage(drawnPage(oddness));
            case 1 -> askHost(odd(6, oddness));
            case 2 -> askNow();
            default -> askShare(drawnPage(oddness), odd(101, oddness));
        }
    }

    private void askPage(int page) {
        switch (below(4)) {
            case 0 -> same("dueAt(" + page + ")", () -> crawl.dueAt(page), () -> model.dueAt(page));
            case 1 -> same("visits(" + page + ")", () -> crawl.visits(page), () -> model.visits(page));
            case 2 -> same("changes(" + page + ")", () -> crawl.changes(page), () -> model.changes(page));
            default -> same("mayVisit(" + page + ")", () -> crawl.mayVisit(page) ? 1 : 0,
                () -> model.mayVisit(page) ? 1 : 0);
        }
    }

    private void askHost(int host) {
        if (below(2) == 0) {
            same("failures(" + host + ")", () -> crawl.failures(host), () -> model.failures(host));
        } else {
            same("openFrom(" + host + ")", () -> crawl.openFrom(host), () -> model.openFrom(host));
        }
    }

    private void askNow() {
        switch (below(7)) {
            case 0 -> same("segments()", crawl::segments, model::segments);
            case 1 -> same("isTrap()", () -> crawl.isTrap() ? 1 : 0, () -> model.isTrap() ? 1 : 0);
            case 2 -> same("pages()", crawl::pages, model::pages);
            case 3 -> same("now()", crawl::now, model::now);
            case 4 -> same("budgetLeft()", crawl::budgetLeft, model::budgetLeft);
            case 5 -> same("waiting()", crawl::waiting, model::waiting);
            default -> same("nextByScan()", crawl::nextByScan, model::next);
        }
    }

    private void askShare(int page, int visits) {
        same("share(" + page + ", " + visits + ")", () -> crawl.share(page, visits), () -> model.share(page, visits));
    }

    private void same(String call, IntSupplier got, IntSupplier due) {
        calls++;
        story.append('\n').append(call);
        String gotAnswer = answer(got);
        String dueAnswer = answer(due);
        if (!gotAnswer.equals(dueAnswer)) {
            throw new AssertionError("answered " + gotAnswer + ", due is " + dueAnswer + ", behind the calls" + story);
        }
    }

    private static String answer(IntSupplier call) {
        try {
            return String.valueOf(call.getAsInt());
        } catch (RuntimeException thrown) {
            return thrown.getClass().getName();
        }
    }
}
