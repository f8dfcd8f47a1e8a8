/**
 * A scheduler of page visits that is polite to hosts. ../shared/DOC.md says what each call promises; the rules that
 * bind this file stand in ../shared/LANGUAGE.md.
 */
public final class Politecrawl {
    public static final int NONE = -1;
    public static final int UNCHANGED = 0, CHANGED = 1, FAILED = 2, GONE = 3;

    private static final char SLASH = '/';
    private static final int MOST_CHARACTERS = 30;
    private static final int LONGEST_REPEATED_ROW = 3;
    private static final int HOSTS = 6;
    private static final int FIRST_REST = 5;
    private static final int LONGEST_REST = 100;
    private static final int HIGHEST_POWER = 5;
    private static final int MOST_PAGES = 30;
    private static final int HIGHEST_RANK = 9;
    private static final int PRESSING_OF_A_RANK = 10;
    private static final int FIRST_SHORTEST_PACE = 10;
    private static final int FIRST_LONGEST_PACE = 500;
    private static final int GREATEST_SHORTEST_PACE = 1000;
    private static final int GREATEST_LONGEST_PACE = 5000;
    private static final int FIRST_BUDGET = 20;
    private static final int GREATEST_BUDGET = 100;
    private static final int SPAN = 100;
    private static final int MOST_TICKS_AT_ONCE = 1000;
    private static final int LAST_TICK = 100000;
    private static final int MOST_VISITS_TO_SPREAD = 100;

    private final Address buffer;
    private final Host[] hosts;
    private final Page[] found;
    private int foundCount;
    private int tick;
    private int shortestPace;
    private int longestPace;
    private int budget;
    private int visitsInSpan;

    public Politecrawl() {
        buffer = new Address();
        hosts = new Host[HOSTS];
        for (int i = 0; i < hosts.length; i++) {
            hosts[i] = new Host();
        }
        found = new Page[MOST_PAGES];
        shortestPace = FIRST_SHORTEST_PACE;
        longestPace = FIRST_LONGEST_PACE;
        budget = FIRST_BUDGET;
    }

    // ---- addresses

    public int type(char character) throws IllegalArgumentException, IllegalStateException {
        boolean letter = character >= 'a' && character <= 'z';
        if (!letter && character != SLASH) {
            throw new IllegalArgumentException("neither a letter a to z nor a slash");
        }
        if (buffer.isFull()) {
            throw new IllegalStateException("the address has all its characters");
        }
        buffer.add(character);
        return buffer.length;
    }

    public int clearAddress() {
        int before = buffer.length;
        buffer.empty();
        return before;
    }

    public int segments() {
        return buffer.segmentCount;
    }

    public boolean isTrap() {
        return buffer.repeatsItself();
    }

    // ---- hosts and paces

    public int setRest(int host, int rest) throws IndexOutOfBoundsException, IllegalArgumentException {
        Host changed = knownHost(host);
        if (rest < 1 || rest > LONGEST_REST) {
            throw new IllegalArgumentException("the rest is out of range");
        }
        int before = changed.rest;
        changed.rest = rest;
        return before;
    }

    public void setPaces(int shortest, int longest) throws IllegalArgumentException {
        if (shortest < 1 || shortest > GREATEST_SHORTEST_PACE) {
            throw new IllegalArgumentException("the shortest pace is out of range");
        }
        if (longest < shortest || longest > GREATEST_LONGEST_PACE) {
            throw new IllegalArgumentException("the longest pace is out of range");
        }
        shortestPace = shortest;
        longestPace = longest;
    }

    public int setBudget(int visits) throws IllegalArgumentException {
        if (visits < 1 || visits > GREATEST_BUDGET) {
            throw new IllegalArgumentException("the budget is out of range");
        }
        int before = budget;
        budget = visits;
        return before;
    }

    public int failures(int host) throws IndexOutOfBoundsException {
        return knownHost(host).failures;
    }

    public int openFrom(int host) throws IndexOutOfBoundsException {
        return knownHost(host).openFrom;
    }

    // ---- pages

    public int find(int host, int rank) throws IndexOutOfBoundsException, IllegalArgumentException,
            IllegalStateException {
        Host itsHost = knownHost(host);
        refuseOtherRanks(rank);
        Page page = pageAtBuffer(itsHost);
        if (page != null) {
            return page.number;
        }
        int number = foundCount;
        if (number < 0 || number >= found.length) {
            throw new IllegalStateException("there are as many pages as there can be");
        }
        found[number] = new Page(number, itsHost, new Address(buffer), rank, tick);
        foundCount++;
        return number;
    }

    public int setRank(int page, int rank) throws IndexOutOfBoundsException, IllegalArgumentException {
        Page changed = knownPage(page);
        refuseOtherRanks(rank);
        int before = changed.rank;
        changed.rank = rank;
        return before;
    }

    public int pages() {
        return foundCount;
    }

    public int dueAt(int page) throws IndexOutOfBoundsException {
        Page asked = knownPage(page);
        return asked.isKept() ? asked.due : NONE;
    }

    public int visits(int page) throws IndexOutOfBoundsException {
        return knownPage(page).visits;
    }

    public int changes(int page) throws IndexOutOfBoundsException {
        return knownPage(page).changes;
    }

    public boolean mayVisit(int page) throws IndexOutOfBoundsException {
        return isReady(knownPage(page));
    }

    // ---- visits and ticks

    public int next() {
        Page first = null;
        for (Host host : hosts) {
            first = earlier(first, firstOfHost(host));
        }
        return numberOf(first);
    }

    public int nextByScan() {
        Page first = null;
        for (Page page : found) {
            if (page != null && isReady(page)) {
                first = earlier(first, page);
            }
        }
        return numberOf(first);
    }

    public int visit(int page, int outcome) throws IndexOutOfBoundsException, IllegalArgumentException,
            IllegalStateException {
        Page visited = knownPage(page);
        if (outcome < UNCHANGED || outcome > GONE) {
            throw new IllegalArgumentException("there is no such outcome");
        }
        if (!isReady(visited)) {
            throw new IllegalStateException("the page may not be visited now");
        }
        visitsInSpan++;
        settle(visited, outcome);
        // The host rests as its failures stand behind this visit, so this comes last.
        visited.host.restFrom(tick);
        return visited.host.openFrom;
    }

    public int pass(int ticks) throws IllegalArgumentException, IllegalStateException {
        if (ticks < 1 || ticks > MOST_TICKS_AT_ONCE) {
            throw new IllegalArgumentException("the ticks are out of range");
        }
        if (tick + ticks > LAST_TICK) {
            throw new IllegalStateException("the tick would be above the last one");
        }
        if (tick + ticks >= startOfNextSpan()) {
            visitsInSpan = 0;
        }
        tick += ticks;
        return tick;
    }

    public int now() {
        return tick;
    }

    public int budgetLeft() {
        // A budget set lower than what is used already leaves none, not less than none.
        return Math.max(0, budget - visitsInSpan);
    }

    public int waiting() {
        int least = NONE;
        for (Page page : found) {
            if (page != null && page.isKept()) {
                int ticks = readyFrom(page) - tick;
                least = least == NONE ? ticks : Math.min(least, ticks);
            }
        }
        return least;
    }

    // ---- spreading

    public int share(int page, int visits) throws IndexOutOfBoundsException, IllegalArgumentException {
        Page asked = knownPage(page);
        if (visits < 0 || visits > MOST_VISITS_TO_SPREAD) {
            throw new IllegalArgumentException("the visits are out of range");
        }
        forgetSpread();
        for (int i = 0; i < visits; i++) {
            spreadOneVisit();
        }
        return asked.spread;
    }

    // ---- behind the face

    private Host knownHost(int number) {
        Host host = number >= 0 && number < hosts.length ? hosts[number] : null;
        if (host == null) {
            throw new IndexOutOfBoundsException("there is no such host");
        }
        return host;
    }

    private Page knownPage(int number) {
        Page page = number >= 0 && number < found.length ? found[number] : null;
        if (page == null) {
            throw new IndexOutOfBoundsException("there is no such page");
        }
        return page;
    }

    private static void refuseOtherRanks(int rank) {
        if (rank < 0 || rank > HIGHEST_RANK) {
            throw new IllegalArgumentException("the rank is out of range");
        }
    }

    private Page pageAtBuffer(Host host) {
        for (Page page : found) {
            if (page != null && page.host == host && page.address.isSameAs(buffer)) {
                return page;
            }
        }
        return null;
    }

    private static int numberOf(Page page) {
        return page == null ? NONE : page.number;
    }

    private boolean isReady(Page page) {
        return page.isKept() && readyFrom(page) <= tick;
    }

    /** The first tick, from now on, at which a page that is kept may be visited. */
    private int readyFrom(Page page) {
        // Every span has a budget of at least one visit, so the next span always helps.
        int fromBudget = budgetLeft() > 0 ? tick : startOfNextSpan();
        return Math.max(fromBudget, Math.max(page.due, page.host.openFrom));
    }

    private int startOfNextSpan() {
        return (tick / SPAN + 1) * SPAN;
    }

    private Page firstOfHost(Host host) {
        Page first = null;
        for (Page page : found) {
            if (page != null && page.host == host && isReady(page)) {
                first = earlier(first, page);
            }
        }
        return first;
    }

    /** Of two pages, or none, the one that is visited first. */
    private Page earlier(Page one, Page other) {
        if (one == null) {
            return other;
        }
        return other != null && goesBefore(other, one) ? other : one;
    }

    private boolean goesBefore(Page one, Page other) {
        int onePresses = one.pressing(tick);
        int otherPresses = other.pressing(tick);
        if (onePresses != otherPresses) {
            return onePresses > otherPresses;
        }
        if (one.rank != other.rank) {
            return one.rank > other.rank;
        }
        return one.number < other.number;
    }

    private void settle(Page page, int outcome) {
        if (outcome == FAILED) {
            page.host.failures++;
            page.due = tick + shortestPace;
            return;
        }
        page.host.failures = 0;
        if (outcome == GONE) {
            page.gone = true;
            return;
        }
        page.visits++;
        page.changes += outcome == CHANGED ? 1 : 0;
        page.due = tick + paceOf(page);
    }

    private int paceOf(Page page) {
        return Math.min(longestPace, dividedUp(shortestPace * (page.visits + 2), page.changes + 1));
    }

    private static int dividedUp(int amount, int parts) {
        return parts < 1 ? amount : (amount + parts - 1) / parts;
    }

    private void forgetSpread() {
        for (Page page : found) {
            if (page != null) {
                page.spread = 0;
            }
        }
    }

    private void spreadOneVisit() {
        Page best = null;
        for (Page page : found) {
            // Only a greater gain takes the visit away from a lower page.
            if (page != null && page.isKept() && (best == null || page.gainsMoreThan(best))) {
                best = page;
            }
        }
        if (best != null) {
            best.spread++;
        }
    }

    /** Letters and slashes in a row. Where a segment starts is kept up as characters come, for each look at it. */
    private static final class Address {
        final char[] characters;
        final int[] starts;
        int length;
        int segmentCount;

        Address() {
            characters = new char[MOST_CHARACTERS];
            starts = new int[MOST_CHARACTERS];
        }

        Address(Address original) {
            characters = original.characters.clone();
            starts = original.starts.clone();
            length = original.length;
            segmentCount = original.segmentCount;
        }

        boolean isFull() {
            return length >= characters.length;
        }

        void add(char character) {
            if (length < 0 || length >= characters.length) {
                return;
            }
            if (character != SLASH && at(length - 1) == SLASH) {
                startSegment();
            }
            characters[length] = character;
            length++;
        }

        void empty() {
            length = 0;
            segmentCount = 0;
        }

        /** A character; beyond both ends a slash, so that the outer segments end like the inner ones. */
        char at(int position) {
            boolean inside = position >= 0 && position < length && position < characters.length;
            return inside ? characters[position] : SLASH;
        }

        boolean isSameAs(Address other) {
            if (length != other.length) {
                return false;
            }
            for (int i = 0; i < length; i++) {
                if (at(i) != other.at(i)) {
                    return false;
                }
            }
            return true;
        }

        boolean repeatsItself() {
            for (int size = 1; size <= LONGEST_REPEATED_ROW; size++) {
                if (comesThrice(size)) {
                    return true;
                }
            }
            return false;
        }

        /** A row comes three times when twice its size of segments, one by one, equal those a row later. */
        private boolean comesThrice(int size) {
            int equalOnes = 0;
            for (int i = 0; i + size < segmentCount; i++) {
                equalOnes = hasSameSegments(i, i + size) ? equalOnes + 1 : 0;
                if (equalOnes == 2 * size) {
                    return true;
                }
            }
            return false;
        }

        private boolean hasSameSegments(int one, int other) {
            int here = startOf(one);
            int there = startOf(other);
            for (int i = 0; i < length; i++) {
                char character = at(here + i);
                if (character != at(there + i)) {
                    return false;
                }
                if (character == SLASH) {
                    return true;
                }
            }
            return true;
        }

        private int startOf(int segment) {
            return segment >= 0 && segment < starts.length ? starts[segment] : length;
        }

        private void startSegment() {
            if (segmentCount >= 0 && segmentCount < starts.length) {
                starts[segmentCount] = length;
                segmentCount++;
            }
        }
    }

    private static final class Host {
        int rest = FIRST_REST;
        int failures;
        int openFrom;

        void restFrom(int tick) {
            openFrom = tick + (rest << Math.min(failures, HIGHEST_POWER));
        }
    }

    private static final class Page {
        final int number;
        final Host host;
        final Address address;
        final boolean lost;
        int rank;
        int due;
        int visits;
        int changes;
        boolean gone;
        /** What the page has got so far of the visits that share() spreads; of no meaning between calls. */
        int spread;

        Page(int number, Host host, Address address, int rank, int tick) {
            this.number = number;
            this.host = host;
            this.address = address;
            this.lost = address.repeatsItself();
            this.rank = rank;
            this.due = tick;
        }

        boolean isKept() {
            return !gone && !lost;
        }

        int pressing(int tick) {
            return PRESSING_OF_A_RANK * rank + tick - due;
        }

        /** Tells whether one visit more adds more worth here; the fractions are multiplied out to stay exact. */
        boolean gainsMoreThan(Page other) {
            return gainAbove() * other.gainBelow() > other.gainAbove() * gainBelow();
        }

        // (rank + 1) * (x / (x + c + 1)) grows from x to x + 1 by (rank + 1) * (c + 1) / ((x + c + 1) * (x + c + 2)).
        private long gainAbove() {
            return (rank + 1L) * (changes + 1L);
        }

        private long gainBelow() {
            return (spread + changes + 1L) * (spread + changes + 2L);
        }
    }
}
