import java.math.BigInteger;
import java.util.ArrayList;
import java.util.Comparator;
import java.util.List;
import java.util.regex.Pattern;

/**
 * The document once more, written for plainness and in other ways than the class (texts, patterns, exact fractions,
 * ticks tried one by one), so that a slip in one of the two shows in RandomRunsTest.
 */
final class Model {
    private static final Pattern THRICE = Pattern.compile("(?<=/)((?:[a-z]+/){1,3})\\1\\1");

    private static final class Known {
        int host;
        String address;
        int rank;
        int due;
        int visits;
        int changes;
        boolean gone;
    }

    private String buffer = "";
    private final int[] rests = {5, 5, 5, 5, 5, 5};
    private final int[] failures = new int[6];
    private final int[] opens = new int[6];
    private final List<Known> known = new ArrayList<>();
    private final List<Integer> visitTicks = new ArrayList<>();
    private int shortest = 10;
    private int longest = 500;
    private int budget = 20;
    private int tick;

    private static boolean trap(String address) {
        String joined = "/" + address.replaceAll("^/+", "").replaceAll("/+", "/");
        return THRICE.matcher(joined.endsWith("/") ? joined : joined + "/").find();
    }

    private static void index(boolean good) {
        if (!good) {
            throw new IndexOutOfBoundsException();
        }
    }

    private static void argument(boolean good) {
        if (!good) {
            throw new IllegalArgumentException();
        }
    }

    private static void state(boolean good) {
        if (!good) {
            throw new IllegalStateException();
        }
    }

    private static void host(int host) {
        index(host >= 0 && host <= 5);
    }

    private Known page(int page) {
        index(page >= 0 && page < known.size());
        return known.get(page);
    }

    private static boolean kept(Known page) {
        return !page.gone && !trap(page.address);
    }

    private int leftAt(int when) {
        int used = 0;
        for (int visited : visitTicks) {
            used += visited / 100 == when / 100 ? 1 : 0;
        }
        return used > budget ? 0 : budget - used;
    }

    private boolean mayAt(Known page, int when) {
        return kept(page) && page.due <= when && opens[page.host] <= when && leftAt(when) > 0;
    }

    int type(char character) {
        argument("abcdefghijklmnopqrstuvwxyz/".indexOf(character) >= 0);
        state(buffer.length() < 30);
        buffer += character;
        return buffer.length();
    }

    int clearAddress() {
        int length = buffer.length();
        buffer = "";
        return length;
    }

    int segments() {
        int count = 0;
        for (String part : buffer.split("/")) {
            count += part.isEmpty() ? 0 : 1;
        }
        return count;
    }

    boolean isTrap() {
        return trap(buffer);
    }

    int setRest(int host, int rest) {
        host(host);
        argument(rest >= 1 && rest <= 100);
        int before = rests[host];
        rests[host] = rest;
        return before;
    }

    void setPaces(int newShortest, int newLongest) {
        argument(newShortest >= 1 && newShortest <= 1000 && newLongest >= newShortest && newLongest <= 5000);
        shortest = newShortest;
        longest = newLongest;
    }

    int setBudget(int visits) {
        argument(visits >= 1 && visits <= 100);
        int before = budget;
        budget = visits;
        return before;
    }

    int failures(int host) {
        host(host);
        return failures[host];
    }

    int openFrom(int host) {
        host(host);
        return opens[host];
    }

    int find(int host, int rank) {
        host(host);
        argument(rank >= 0 && rank <= 9);
        for (int i = 0; i < known.size(); i++) {
            if (known.get(i).host == host && known.get(i).address.equals(buffer)) {
                return i;
            }
        }
        state(known.size() < 30);
        Known page = new Known();
        page.host = host;
        page.address = buffer;
        page.rank = rank;
        page.due = tick;
        known.add(page);
        return known.size() - 1;
    }

    int setRank(int page, int rank) {
        Known changed = page(page);
        argument(rank >= 0 && rank <= 9);
        int before = changed.rank;
        changed.rank = rank;
        return before;
    }

    int pages() {
        return known.size();
    }

    int dueAt(int page) {
        return kept(page(page)) ? page(page).due : -1;
    }

    int visits(int page) {
        return page(page).visits;
    }

    int changes(int page) {
        return page(page).changes;
    }

    boolean mayVisit(int page) {
        return mayAt(page(page), tick);
    }

    int next() {
        List<Known> ready = new ArrayList<>(known);
        ready.removeIf(page -> !mayAt(page, tick));
        ready.sort(Comparator.comparingInt((Known page) -> -(10 * page.rank + (tick - page.due)))
            .thenComparing(page -> -page.rank).thenComparing(known::indexOf));
        return ready.isEmpty() ? -1 : known.indexOf(ready.get(0));
    }

    int visit(int page, int outcome) {
        Known visited = page(page);
        argument(outcome >= 0 && outcome <= 3);
        state(mayAt(visited, tick));
        visitTicks.add(tick);
        failures[visited.host] = outcome == 2 ? failures[visited.host] + 1 : 0;
        if (outcome <= 1) {
            visited.visits++;
            visited.changes += outcome;
            int pace = 0;
            while (pace < longest && pace * (visited.changes + 1) < shortest * (visited.visits + 2)) {
                pace++;
            }
            visited.due = tick + pace;
        }
        if (outcome == 2) {
            visited.due = tick + shortest;
        }
        visited.gone = outcome == 3;
        int rest = rests[visited.host];
        for (int i = 0; i < failures[visited.host] && i < 5; i++) {
            rest = rest * 2;
        }
        opens[visited.host] = tick + rest;
        return opens[visited.host];
    }

    int pass(int ticks) {
        argument(ticks >= 1 && ticks <= 1000);
        state(tick + ticks <= 100000);
        tick += ticks;
        return tick;
    }

    int now() {
        return tick;
    }

    int budgetLeft() {
        return leftAt(tick);
    }

    int waiting() {
        if (known.stream().noneMatch(Model::kept)) {
            return -1;
        }
        for (int ticks = 0;; ticks++) {
            int when = tick + ticks;
            if (known.stream().anyMatch(page -> page.due <= when && mayAt(page, when))) {
                return ticks;
            }
        }
    }

    private static BigInteger[] worth(Known page, int visits) {
        return new BigInteger[] {BigInteger.valueOf((page.rank + 1L) * visits),
            BigInteger.valueOf(visits + page.changes + 1L)};
    }

    /** The difference of two fractions as one. */
    private static BigInteger[] less(BigInteger[] one, BigInteger[] other) {
        return new BigInteger[] {one[0].multiply(other[1]).subtract(other[0].multiply(one[1])),
            one[1].multiply(other[1])};
    }

    int share(int page, int visits) {
        page(page);
        argument(visits >= 0 && visits <= 100);
        int[] shares = new int[known.size()];
        for (int i = 0; i < visits; i++) {
            int best = -1;
            BigInteger[] most = null;
            for (int at = 0; at < shares.length; at++) {
                Known tried = known.get(at);
                BigInteger[] gain = less(worth(tried, shares[at] + 1), worth(tried, shares[at]));
                if (kept(tried) && (most == null || less(gain, most)[0].signum() > 0)) {
                    best = at;
                    most = gain;
                }
            }
            if (best >= 0) {
                shares[best]++;
            }
        }
        return shares[page];
    }
}
