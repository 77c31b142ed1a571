import java.util.Arrays;

/** Fewest points that touch every line, and what comes with them: the document is ../shared/DOC.md. */
public final class LinesTouched {
    public static final int NONE = -1, BAD = -2, STATE = -3, FULL = -4;

    private static final int NOTHING_HELD = -11, OUTSIDE = -12, OTHER_SORT = -13, BELOW_ZERO = -14;
    private static final int MOST_POINTS = 12, KINDS = 6, MOST_WEIGHT = 9, MOST_ODDS = 10;
    private static final int MOST_TIMES = 20, MOST_SHEETS = 4, MOST_NUMBERS = 60, MOST_SHELVES = 4;
    private static final int MOST_NODES = 60, MOST_OPEN = 20, MOST_BYTES = 200;
    private static final int POINT = 0, TOLL = 1, CLUB = 2, KEEPER = 3, GUILD = 4, WARDEN = 5;
    private static final int BYTES = 0, SHORTS = 1, INTS = 2, MISSING = -1;
    private static final int ROWS_FROM = 10, PLACES_FROM = -100, K_ABOVE = 20, NOT_LEAST = 100;
    private static final int[] KIND_ABOVE = {-1, POINT, POINT, TOLL, CLUB, KEEPER};

    private final Net net;
    private final Net thought;
    private final Net kept;
    private final Halves halving;
    private final Covers covering;
    private final Crowns crowning;
    private final Kernel reducing;
    private final Packing packing;
    private final Search searching;
    private final Tape tape;
    private final Sheets sheets;
    private final Shelves shelves;
    private Tree grown;
    private Tree spare;
    private int z;
    private int keptZ;
    private boolean hasImage;

    public LinesTouched() {
        net = new Net();
        thought = new Net();
        kept = new Net();
        halving = new Halves();
        // covers and packs are each found anew at every call, so one row will do for both
        int[] perSet = new int[1 << MOST_POINTS];
        covering = new Covers(perSet);
        crowning = new Crowns();
        reducing = new Kernel();
        packing = new Packing(perSet);
        searching = new Search();
        tape = new Tape();
        sheets = new Sheets();
        shelves = new Shelves();
        grown = new Tree();
        spare = new Tree();
        z = 1;
        keptZ = 1;
        hasImage = false;
    }

    // ---- the net

    public int point(int kind, int weight) {
        if (!isKind(kind) || !isWeight(weight)) return BAD;
        if (net.size >= MOST_POINTS) return FULL;
        return net.add(kind, weight);
    }

    public int line(int a, int b, int on) {
        if (!net.hasTwo(a, b) || !within(on, 0, 1)) return BAD;
        int was = net.joined(a, b) ? 1 : 0;
        net.join(a, b, on == 1);
        return was;
    }

    public int pointOf(int p, int what) {
        if (!net.has(p)) return BAD;
        switch (what) {
            case 0: return net.kinds[p];
            case 1: return net.weights[p];
            case 2: return net.price(p);
            case 3: return net.next[p];
            case 4: return net.degree(p);
            default: return BAD;
        }
    }

    public int change(int p, int what, int v) {
        if (!net.has(p)) return BAD;
        if (what == 0 && isKind(v)) {
            int was = net.kinds[p];
            net.kinds[p] = v;
            return was;
        }
        if (what == 1 && isWeight(v)) {
            int was = net.weights[p];
            net.weights[p] = v;
            return was;
        }
        return BAD;
    }

    public int count(int what) {
        switch (what) {
            case 0: return net.size;
            case 1: return net.lines();
            case 2: return net.lonely();
            case 3: return tape.size;
            case 4: return z;
            case 5: return grown.size;
            default: return BAD;
        }
    }

    public int isCover(int set) {
        if (!net.hasAll(set)) return BAD;
        if (!net.covers(set)) return 0;
        return net.needsAll(set) ? 2 : 1;
    }

    public int costOf(int set) {
        if (!net.hasAll(set)) return BAD;
        return net.priceOfAll(set);
    }

    // ---- covers

    public int fewest(int what) {
        if (!within(what, 0, 4)) return BAD;
        covering.findFewest(net);
        switch (what) {
            case 0: return covering.amount;
            case 1: return covering.least;
            case 2: return covering.many;
            case 3: return covering.inAll;
            default: return net.all() & ~covering.inAny;
        }
    }

    public int dear(int what) {
        if (!within(what, 0, 2)) return BAD;
        covering.findCheapest(net);
        switch (what) {
            case 0: return covering.amount;
            case 1: return covering.least;
            default: return covering.many;
        }
    }

    public int sized(int n) {
        if (!within(n, 0, MOST_POINTS)) return BAD;
        return covering.howManyOf(net, n, 0, 0);
    }

    public int bare(int what) {
        if (!within(what, 0, 2)) return BAD;
        covering.findBare(net);
        switch (what) {
            case 0: return covering.many;
            case 1: return covering.amount;
            default: return covering.least;
        }
    }

    public long share(int part) {
        if (!within(part, 0, 1)) return BAD;
        long above = covering.howMany(net);
        long below = 1L << net.size;
        for (int i = 0; i < net.size && (above & 1) == 0; i++) {
            above >>= 1;
            below >>= 1;
        }
        return part == 0 ? above : below;
    }

    // ---- halves, crowns

    public int halves(int what) {
        if (!within(what, 0, 3)) return BAD;
        halving.settle(net.next, net.all());
        switch (what) {
            case 0: return Integer.bitCount(halving.ones) + 2 * Integer.bitCount(halving.twos);
            case 1: return halving.zeros;
            case 2: return halving.ones;
            default: return halving.twos;
        }
    }

    public int half(int p) {
        if (!net.has(p)) return BAD;
        halving.settle(net.next, net.all());
        if ((halving.zeros >> p & 1) != 0) return 0;
        return (halving.ones >> p & 1) != 0 ? 1 : 2;
    }

    public int mayHave(int p) {
        if (!net.has(p)) return BAD;
        return halving.possible(net.next, net.all(), p);
    }

    public int mate(int p) {
        if (!net.has(p)) return BAD;
        halving.settle(net.next, net.all());
        return halving.firstMate(net.next, halving.twos, halving.zeros, p);
    }

    public int persists() {
        halving.settle(net.next, net.all());
        int size = Covers.fewestOf(net.next, net.all());
        return covering.howManyOf(net, size, halving.twos, halving.zeros);
    }

    public int isCrown(int set) {
        if (!net.hasAll(set)) return BAD;
        return Crowns.isOne(net, halving, set, net.near(set)) ? 1 : 0;
    }

    public int crowns(int what) {
        if (!within(what, 0, 2)) return BAD;
        crowning.find(net, halving, covering);
        if (what == 0) return crowning.many;
        if (crowning.many == 0) return NONE;
        return what == 1 ? crowning.greatest : net.near(crowning.greatest);
    }

    // ---- kernels, packs

    public int kernel(int k, int what) {
        if (!isK(k) || !within(what, 0, 4)) return BAD;
        reducing.reduce(net, k);
        switch (what) {
            case 0: return reducing.left;
            case 1: return reducing.took;
            case 2: return reducing.k + K_ABOVE;
            case 3: return reducing.rounds;
            default: return reducing.refuses() ? 1 : 0;
        }
    }

    public int round(int k, int i, int what) {
        if (!isK(k) || !within(what, 0, 2)) return BAD;
        reducing.reduce(net, k);
        if (i < 0 || i >= reducing.rounds) return BAD;
        switch (what) {
            case 0: return reducing.rules[i];
            case 1: return reducing.going[i];
            default: return reducing.taking[i];
        }
    }

    public int pack(int what) {
        if (!within(what, 0, 1)) return BAD;
        packing.findBest(net);
        return what == 0 ? packing.worth : packing.sets;
    }

    public int packs(int s) {
        if (!sheets.has(s)) return BAD;
        if (sheets.isMissing(s)) return NOTHING_HELD;
        int worth = 0;
        int used = 0;
        for (int i = 0; i < sheets.sizes[s]; i++) {
            int set = sheets.rows[s][i];
            if (!packing.canHold(net, set) || (set & used) != 0) return PLACES_FROM - i;
            used |= set;
            worth += Integer.bitCount(set) - 1;
        }
        return worth;
    }

    // ---- the search, refusals

    public int search(int k, int what) {
        if (!isK(k) || !within(what, 0, 4)) return BAD;
        searching.run(net, k, NONE);
        switch (what) {
            case 0: return searching.finds ? 1 : 0;
            case 1: return searching.nodes;
            case 2: return searching.finds ? searching.found : NONE;
            case 3: return searching.refused;
            default: return searching.deepest;
        }
    }

    public int node(int k, int i, int what) {
        if (!isK(k) || !within(what, 0, 4)) return BAD;
        searching.run(net, k, i);
        if (i < 0 || i >= searching.nodes) return BAD;
        switch (what) {
            case 0: return searching.branchThere;
            case 1: return searching.leftThere;
            case 2: return searching.takenThere;
            case 3: return searching.kThere + K_ABOVE;
            default: return searching.depthThere;
        }
    }

    public int prove(int s, int k) {
        if (!sheets.has(s) || !isK(k)) return BAD;
        searching.run(net, k, NONE);
        if (searching.finds) return NONE;
        if (searching.nodes > MOST_NUMBERS) return FULL;
        sheets.begin(s, SHORTS, searching.nodes);
        for (int i = 0; i < searching.nodes; i++) {
            sheets.put(s, i, searching.branches[i]);
        }
        return searching.nodes;
    }

    public int proves(int s, int k) {
        if (!sheets.has(s) || !isK(k)) return BAD;
        if (sheets.isMissing(s)) return NOTHING_HELD;
        int place = searching.firstWrong(net, k, sheets.rows[s], sheets.sizes[s]);
        return place < 0 ? 0 : 1 + place;
    }

    // ---- one more, one less

    public int without(int p) {
        if (!net.has(p)) return BAD;
        return Covers.fewestOf(net.next, net.all() & ~(1 << p));
    }

    public int cut(int what) {
        if (!within(what, 0, 1)) return BAD;
        int most = Covers.fewestOf(net.next, net.all());
        int first = NONE;
        int many = 0;
        thought.become(net);
        for (int a = 0; a < net.size; a++) {
            for (int b = a + 1; b < net.size; b++) {
                if (!net.joined(a, b)) continue;
                thought.join(a, b, false);
                if (Covers.fewestOf(thought.next, net.all()) < most) {
                    if (many == 0) first = MOST_POINTS * a + b;
                    many++;
                }
                thought.join(a, b, true);
            }
        }
        return what == 0 ? first : many;
    }

    public int joins(int what) {
        if (!within(what, 0, 1)) return BAD;
        covering.findFewest(net);
        // a new line costs a point more just where no fewest cover has either of its ends
        int never = net.all() & ~covering.inAny;
        int many = Integer.bitCount(never);
        if (what == 1) return many * (many - 1) / 2;
        if (many < 2) return NONE;
        int a = Integer.numberOfTrailingZeros(never);
        int b = Integer.numberOfTrailingZeros(never & (never - 1));
        return MOST_POINTS * a + b;
    }

    public int pays(int what) {
        if (!within(what, 0, 2)) return BAD;
        int together = net.payUpTo(MOST_POINTS, MOST_POINTS);
        if (what == 0) return together;
        int spent = net.spent();
        return what == 1 ? spent : net.priceOfAll(spent);
    }

    public int paid(int a, int b) {
        if (!net.hasTwo(a, b)) return BAD;
        if (!net.joined(a, b)) return NONE;
        net.payUpTo(Math.min(a, b), Math.max(a, b));
        return Math.min(net.purses[a], net.purses[b]);
    }

    // ---- the tree

    public int feed(int bytes, int n) {
        if (!within(n, 1, 4)) return BAD;
        if (tape.size + n > MOST_BYTES) return FULL;
        for (int i = n - 1; i >= 0; i--) {
            tape.put(bytes >>> (8 * i) & 255);
        }
        return tape.size;
    }

    public int wipe() {
        int was = tape.size;
        tape.size = 0;
        return was;
    }

    public int text() {
        int fault = tape.fault(spare);
        tape.size = 0;
        if (fault >= 0) return PLACES_FROM - fault;
        Tree old = grown;
        grown = spare;
        spare = old;
        return grown.size;
    }

    public long tree(int what) {
        if (!within(what, 0, 5)) return BAD;
        if (grown.size == 0) return NONE;
        switch (what) {
            case 0: return grown.leastSum(Tree.BY_NODES);
            case 1: return grown.howManyLeast(Tree.BY_NOTHING);
            case 2: return grown.howManyLeast(Tree.BY_NODES);
            case 3: return grown.leastSum(Tree.BY_COST);
            case 4: return grown.howManyLeast(Tree.BY_COST);
            default: return grown.howManyBare();
        }
    }

    public int treeOf(int node, int what) {
        if (!grown.has(node)) return BAD;
        switch (what) {
            case 0: return grown.kinds[node];
            case 1: return grown.weights[node];
            case 2: return node == 0 ? NONE : grown.parents[node];
            case 3: return grown.under(node);
            case 4: return grown.price(node);
            case 5: return (int) (grown.marks() >>> node & 1);
            default: return BAD;
        }
    }

    public int plant() {
        if (grown.size == 0) return NONE;
        if (grown.size > MOST_POINTS) return STATE;
        net.clear();
        for (int v = 0; v < grown.size; v++) {
            net.add(grown.kinds[v], grown.weights[v]);
            if (v > 0) net.join(grown.parents[v], v, true);
        }
        return net.size;
    }

    // ---- draws

    public int seed(int v) {
        int was = z;
        z = v;
        return was;
    }

    public int deal(int n, int odds) {
        if (!within(n, 0, MOST_POINTS) || !within(odds, 0, MOST_ODDS)) return BAD;
        z = net.becomeDealt(z, n, odds);
        return net.lines();
    }

    public int times(int n, int points, int odds, int k) {
        if (!within(n, 1, MOST_TIMES) || !within(points, 0, MOST_POINTS)) return BAD;
        if (!within(odds, 0, MOST_ODDS) || !isK(k)) return BAD;
        int draws = z;
        int many = 0;
        for (int i = 0; i < n; i++) {
            draws = thought.becomeDealt(draws, points, odds);
            if (Covers.fewestOf(thought.next, thought.all()) <= k) many++;
        }
        return many;
    }

    // ---- sheets, shelves

    public int sheet(int s, int sort, int n) {
        if (!sheets.has(s) || !within(sort, MISSING, INTS)) return BAD;
        if (sort == MISSING) {
            sheets.begin(s, MISSING, 0);
            return 1;
        }
        if (n > MOST_NUMBERS) return BAD;
        if (n < 0) return BELOW_ZERO;
        sheets.begin(s, sort, n);
        return 1;
    }

    public int write(int s, int i, int v) {
        int refusal = sheets.refusal(s, i);
        if (refusal != 0) return refusal;
        sheets.put(s, i, v);
        return 1;
    }

    public int item(int s, int i) {
        int refusal = sheets.refusal(s, i);
        if (refusal != 0) return refusal;
        return sheets.rows[s][i];
    }

    public int copy(int s, int i, int other, int j, int n) {
        if (!sheets.has(s) || !sheets.has(other)) return BAD;
        if (sheets.isMissing(s) || sheets.isMissing(other)) return NOTHING_HELD;
        if (sheets.sorts[s] != sheets.sorts[other]) return OTHER_SORT;
        if (!sheets.hasRange(s, i, n) || !sheets.hasRange(other, j, n)) return OUTSIDE;
        System.arraycopy(sheets.rows[s], i, sheets.rows[other], j, n);
        return n;
    }

    public int load(int s) {
        if (!sheets.has(s)) return BAD;
        if (sheets.isMissing(s)) return NOTHING_HELD;
        int came = 0;
        for (int i = 0; i < sheets.sizes[s]; i++) {
            int weight = sheets.rows[s][i];
            if (!isWeight(weight) || !net.has(i)) break;
            net.weights[i] = weight;
            came++;
        }
        return came;
    }

    public int judge(int s) {
        if (!sheets.has(s)) return BAD;
        if (sheets.isMissing(s)) return NOTHING_HELD;
        int together = 0;
        for (int i = 0; i < sheets.sizes[s]; i++) {
            if (!net.has(i) || !net.mayFollow(sheets.rows[s], i)) return 1 + i;
            together += sheets.rows[s][i];
        }
        if (sheets.sizes[s] < net.size) return NOT_LEAST;
        return together == halving.least(net.next, net.all()) ? 0 : NOT_LEAST;
    }

    public int shelf(int h, int what, int n) {
        if (!shelves.has(h) || !within(what, 0, 2)) return BAD;
        if (what == 0) {
            if (!net.has(n)) return BAD;
            shelves.holdPoint(h, n);
        } else if (what == 1) {
            if (!sheets.has(n)) return BAD;
            shelves.holdRow(h, sheets.sorts[n], sheets.sizes[n]);
        } else {
            shelves.holdNothing(h);
        }
        return 1;
    }

    public int taken(int h, int as) {
        boolean asRow = within(as, ROWS_FROM, ROWS_FROM + INTS);
        if (!shelves.has(h) || !isKind(as) && !asRow) return BAD;
        int number = shelves.numbers[h];
        if (shelves.holds[h] == Shelves.A_ROW) {
            return asRow && shelves.sorts[h] == as - ROWS_FROM ? number : OTHER_SORT;
        }
        if (shelves.holds[h] == Shelves.NOTHING || !net.has(number)) return NOTHING_HELD;
        return !asRow && isUnderOrLike(net.kinds[number], as) ? number : OTHER_SORT;
    }

    // ---- the image

    public int image() {
        kept.become(net);
        keptZ = z;
        hasImage = true;
        return net.size;
    }

    public int back() {
        if (!hasImage) return STATE;
        net.become(kept);
        z = keptZ;
        return net.size;
    }

    // ---- what several calls need

    private static boolean within(int v, int from, int to) {
        return v >= from && v <= to;
    }

    private static boolean isKind(int kind) {
        return within(kind, 0, KINDS - 1);
    }

    private static boolean isWeight(int weight) {
        return within(weight, 1, MOST_WEIGHT);
    }

    private static boolean isK(int k) {
        return within(k, 0, MOST_POINTS);
    }

    private static boolean isUnderOrLike(int kind, int as) {
        int at = kind;
        for (int steps = 0; steps < KINDS && isKind(at); steps++) {
            if (at == as) return true;
            at = KIND_ABOVE[at];
        }
        return false;
    }

    private static int priceBy(int kind, int weight, int lines, int number) {
        int asKeeper = Math.max(1, weight + lines - 2);
        switch (kind) {
            case TOLL: return weight + lines;
            case CLUB: return 2 * weight;
            case KEEPER: return asKeeper;
            case GUILD: return 2 * weight + number;
            case WARDEN: return asKeeper / 2 + 1;
            default: return weight;
        }
    }

    /** Points with their lines, as bits of those next to each. */
    private static final class Net {
        final int[] kinds = new int[MOST_POINTS];
        final int[] weights = new int[MOST_POINTS];
        final int[] next = new int[MOST_POINTS];
        final int[] purses = new int[MOST_POINTS];
        int size = 0;

        boolean has(int p) {
            return p >= 0 && p < size;
        }

        boolean hasTwo(int a, int b) {
            return has(a) && has(b) && a != b;
        }

        int all() {
            return (1 << size) - 1;
        }

        boolean hasAll(int set) {
            return (set & ~all()) == 0;
        }

        void clear() {
            size = 0;
            Arrays.fill(next, 0);
        }

        int add(int kind, int weight) {
            if (size >= MOST_POINTS) return FULL;
            kinds[size] = kind;
            weights[size] = weight;
            next[size] = 0;
            size++;
            return size - 1;
        }

        boolean joined(int a, int b) {
            return has(a) && has(b) && (next[a] >> b & 1) != 0;
        }

        void join(int a, int b, boolean on) {
            if (!hasTwo(a, b)) return;
            if (on) {
                next[a] |= 1 << b;
                next[b] |= 1 << a;
            } else {
                next[a] &= ~(1 << b);
                next[b] &= ~(1 << a);
            }
        }

        void become(Net other) {
            size = other.size;
            System.arraycopy(other.kinds, 0, kinds, 0, MOST_POINTS);
            System.arraycopy(other.weights, 0, weights, 0, MOST_POINTS);
            System.arraycopy(other.next, 0, next, 0, MOST_POINTS);
        }

        /** Answers what z is behind the last draw. */
        int becomeDealt(int first, int n, int odds) {
            int z = first;
            clear();
            for (int p = 0; p < n && p < MOST_POINTS; p++) {
                z = drawn(z);
                int kind = (z >>> 16) % KINDS;
                z = drawn(z);
                add(kind, 1 + (z >>> 16) % MOST_WEIGHT);
            }
            for (int a = 0; a < size; a++) {
                for (int b = a + 1; b < size; b++) {
                    z = drawn(z);
                    if ((z >>> 16) % MOST_ODDS < odds) join(a, b, true);
                }
            }
            return z;
        }

        private static int drawn(int z) {
            return z * 1103515245 + 12345;
        }

        int degree(int p) {
            return Integer.bitCount(next[p]);
        }

        int lines() {
            int ends = 0;
            for (int p = 0; p < size; p++) {
                ends += degree(p);
            }
            return ends / 2;
        }

        int lonely() {
            int many = 0;
            for (int p = 0; p < size; p++) {
                if (next[p] == 0) many++;
            }
            return many;
        }

        int price(int p) {
            return priceBy(kinds[p], weights[p], degree(p), p);
        }

        int priceOfAll(int set) {
            int together = 0;
            for (int p = 0; p < size; p++) {
                if ((set >> p & 1) != 0) together += price(p);
            }
            return together;
        }

        boolean covers(int set) {
            for (int p = 0; p < size; p++) {
                if ((set >> p & 1) == 0 && (next[p] & ~set) != 0) return false;
            }
            return true;
        }

        /** Of a cover: whether each of its points is the only one on some line. */
        boolean needsAll(int cover) {
            for (int p = 0; p < size; p++) {
                if ((cover >> p & 1) != 0 && (next[p] & ~cover) == 0) return false;
            }
            return true;
        }

        int near(int set) {
            int found = 0;
            for (int p = 0; p < size; p++) {
                if ((set >> p & 1) != 0) found |= next[p];
            }
            return found;
        }

        /** The lines ahead of the one between stopA and stopB pay: how much together. */
        int payUpTo(int stopA, int stopB) {
            int together = 0;
            for (int p = 0; p < size; p++) {
                purses[p] = price(p);
            }
            for (int a = 0; a < size; a++) {
                for (int b = a + 1; b < size; b++) {
                    if (a == stopA && b == stopB) return together;
                    if (!joined(a, b)) continue;
                    int sum = Math.min(purses[a], purses[b]);
                    purses[a] -= sum;
                    purses[b] -= sum;
                    together += sum;
                }
            }
            return together;
        }

        int spent() {
            int set = 0;
            for (int p = 0; p < size; p++) {
                if (purses[p] == 0) set |= 1 << p;
            }
            return set;
        }

        /** Whether number i of a row may be what point i has, by those ahead of it. */
        boolean mayFollow(int[] row, int i) {
            if (!within(row[i], 0, 2)) return false;
            for (int p = 0; p < i; p++) {
                if (joined(p, i) && row[p] + row[i] < 2) return false;
            }
            return true;
        }

        /** The least point with most lines in a part, or NONE if it has no lines. */
        static int busiest(int[] next, int part) {
            int best = NONE;
            int most = 0;
            for (int p = 0; p < MOST_POINTS; p++) {
                if ((part >> p & 1) == 0) continue;
                int many = Integer.bitCount(next[p] & part);
                if (many > most) {
                    most = many;
                    best = p;
                }
            }
            return best;
        }
    }

    /** Pairings between two sides, and by them the halves: a half is told on two sides, left and right. */
    private static final class Halves {
        private final int[] ofLeft = new int[MOST_POINTS];
        private final int[] ofRight = new int[MOST_POINTS];
        private final int[] reachedFrom = new int[MOST_POINTS];
        private final int[] waiting = new int[MOST_POINTS];
        private int rightsUsed = 0;
        int zeros = 0;
        int ones = 0;
        int twos = 0;

        /** How many of left can be paired into right. */
        int mostPairs(int[] next, int left, int right) {
            int pairs = 0;
            rightsUsed = 0;
            Arrays.fill(ofLeft, NONE);
            Arrays.fill(ofRight, NONE);
            for (int p = 0; p < MOST_POINTS; p++) {
                if ((left >> p & 1) != 0 && pairsOneMore(next, p, right)) pairs++;
            }
            return pairs;
        }

        private boolean pairsOneMore(int[] next, int start, int right) {
            int seen = 0;
            int size = 1;
            waiting[0] = start;
            for (int i = 0; i < size && i < MOST_POINTS; i++) {
                int p = waiting[i];
                int fresh = next[p] & right & ~seen;
                int open = fresh & ~rightsUsed;
                if (open != 0) {
                    int last = Integer.numberOfTrailingZeros(open);
                    reachedFrom[last] = p;
                    rightsUsed |= 1 << last;
                    shiftPairs(last);
                    return true;
                }
                seen |= fresh;
                for (int q = 0; q < MOST_POINTS; q++) {
                    if ((fresh >> q & 1) == 0) continue;
                    reachedFrom[q] = p;
                    if (ofRight[q] < 0 || size >= MOST_POINTS) continue;
                    waiting[size] = ofRight[q];
                    size++;
                }
            }
            return false;
        }

        private void shiftPairs(int last) {
            int q = last;
            for (int steps = 0; steps < MOST_POINTS && q >= 0; steps++) {
                int p = reachedFrom[q];
                int before = ofLeft[p];
                ofLeft[p] = q;
                ofRight[q] = p;
                q = before;
            }
        }

        /** What least halves of a part have together: as much as pairs of its points on two sides. */
        int least(int[] next, int part) {
            return mostPairs(next, part, part);
        }

        /** The same, while on each side some surely have 1 (full), and 0 those that are neither full nor free. */
        private int leastWith(int[] next, int leftFull, int leftFree, int rightFull, int rightFree) {
            int sure = Integer.bitCount(leftFull) + Integer.bitCount(rightFull);
            return sure + mostPairs(next, leftFree, rightFree);
        }

        /** Finds the halves of a part: each point in turn gets the first of 0, 2, 1 that stays least. */
        void settle(int[] next, int part) {
            int best = least(next, part);
            int leftFull = 0;
            int rightFull = 0;
            zeros = 0;
            ones = 0;
            twos = 0;
            for (int p = 0; p < MOST_POINTS; p++) {
                int bit = 1 << p;
                if ((part & bit) == 0) continue;
                int near = next[p] & part;
                int leftOpen = part & ~(zeros | bit);
                int rightOpen = part & ~(zeros | ones | bit);
                if (((leftFull | rightFull) & bit) == 0
                        && leastWith(next, leftFull | near, leftOpen & ~(leftFull | near),
                                rightFull | near, rightOpen & ~(rightFull | near)) == best) {
                    zeros |= bit;
                    leftFull |= near;
                    rightFull |= near;
                } else if (leastWith(next, leftFull | bit, leftOpen & ~leftFull,
                        rightFull | bit, rightOpen & ~rightFull) == best) {
                    twos |= bit;
                    leftFull |= bit;
                    rightFull |= bit;
                } else {
                    // a point with 1 has it on the left, so those next to it have one there, too
                    ones |= bit;
                    leftFull |= bit | near;
                }
            }
        }

        /** What a point of a part may have in least halves of it, as bits. */
        int possible(int[] next, int part, int p) {
            int bit = 1 << p;
            int near = next[p] & part;
            int rest = part & ~bit;
            int best = least(next, part);
            int found = 0;
            if (leastWith(next, near, rest & ~near, near, rest & ~near) == best) found |= 1;
            if (leastWith(next, bit | near, rest & ~near, 0, rest) == best) found |= 2;
            if (leastWith(next, bit, rest, bit, rest) == best) found |= 4;
            return found;
        }

        /** The other one of p, where each of head in turn has the least one of crown that leaves enough. */
        int firstMate(int[] next, int head, int crown, int p) {
            int heads = head;
            int open = crown;
            for (int h = 0; h < MOST_POINTS; h++) {
                if ((head >> h & 1) == 0) continue;
                heads &= ~(1 << h);
                int mate = leastMate(next, next[h] & open, heads, open);
                if (mate < 0) continue;
                if (h == p) return mate;
                if (mate == p) return h;
                open &= ~(1 << mate);
            }
            return NONE;
        }

        private int leastMate(int[] next, int choices, int heads, int open) {
            for (int q = 0; q < MOST_POINTS; q++) {
                if ((choices >> q & 1) == 0) continue;
                if (mostPairs(next, heads, open & ~(1 << q)) == Integer.bitCount(heads)) return q;
            }
            return NONE;
        }
    }

    /** Looks through all sets of points for covers. */
    private static final class Covers {
        final int[] perSet;
        private final int[] prices = new int[MOST_POINTS];
        int amount = 0;
        int least = 0;
        int many = 0;
        int inAll = 0;
        int inAny = 0;

        /** The row has a place for each set; it may be used for other things between two calls. */
        Covers(int[] row) {
            perSet = row;
        }

        /** For each set all that are next to any of it. */
        void spread(Net net) {
            int all = net.all();
            perSet[0] = 0;
            for (int set = 1; set <= all; set++) {
                perSet[set] = perSet[set & (set - 1)] | net.next[Integer.numberOfTrailingZeros(set)];
            }
        }

        /** Behind spread: a set is a cover just if the others have no line among them. */
        private boolean coversWithout(int others) {
            return (perSet[others] & others) == 0;
        }

        void findFewest(Net net) {
            int all = net.all();
            spread(net);
            amount = MOST_POINTS + 1;
            for (int set = 0; set <= all; set++) {
                int size = Integer.bitCount(set);
                if (size > amount || !coversWithout(all ^ set)) continue;
                if (size < amount) {
                    startWith(set, size);
                } else {
                    many++;
                    inAll &= set;
                    inAny |= set;
                }
            }
        }

        private void startWith(int set, int newAmount) {
            amount = newAmount;
            least = set;
            many = 1;
            inAll = set;
            inAny = set;
        }

        void findCheapest(Net net) {
            int all = net.all();
            spread(net);
            for (int p = 0; p < net.size; p++) {
                prices[p] = net.price(p);
            }
            amount = net.priceOfAll(all) + 1;
            for (int set = 0; set <= all; set++) {
                if (!coversWithout(all ^ set)) continue;
                int price = priceOf(set, net.size);
                if (price < amount) {
                    startWith(set, price);
                } else if (price == amount) {
                    many++;
                }
            }
        }

        private int priceOf(int set, int size) {
            int together = 0;
            for (int p = 0; p < size; p++) {
                if ((set >> p & 1) != 0) together += prices[p];
            }
            return together;
        }

        /** A cover is bare just if all of it are next to the others. */
        void findBare(Net net) {
            int all = net.all();
            spread(net);
            amount = -1;
            many = 0;
            for (int set = 0; set <= all; set++) {
                if (perSet[all ^ set] != set) continue;
                many++;
                int size = Integer.bitCount(set);
                if (size > amount) {
                    amount = size;
                    least = set;
                }
            }
        }

        int howMany(Net net) {
            int all = net.all();
            int found = 0;
            spread(net);
            for (int set = 0; set <= all; set++) {
                if (coversWithout(all ^ set)) found++;
            }
            return found;
        }

        /** How many covers of a size have all of one set and none of another. */
        int howManyOf(Net net, int size, int inside, int outside) {
            int all = net.all();
            int found = 0;
            spread(net);
            for (int set = 0; set <= all; set++) {
                if ((set & inside) != inside || (set & outside) != 0) continue;
                if (Integer.bitCount(set) == size && coversWithout(all ^ set)) found++;
            }
            return found;
        }

        /** How many points the fewest covers of a part have. */
        static int fewestOf(int[] next, int part) {
            return fewestIn(next, part, 0);
        }

        private static int fewestIn(int[] next, int part, int depth) {
            int p = Net.busiest(next, part);
            if (p < 0 || depth > MOST_POINTS) return 0;
            int near = next[p] & part;
            int rest = part & ~(1 << p);
            int with = 1 + fewestIn(next, rest, depth + 1);
            // no two lines meet any more: either end of this one does as well
            if (Integer.bitCount(near) == 1) return with;
            return Math.min(with, Integer.bitCount(near) + fewestIn(next, rest & ~near, depth + 1));
        }
    }

    /** Finds crowns among all sets of points. */
    private static final class Crowns {
        int many = 0;
        int greatest = 0;

        static boolean isOne(Net net, Halves halving, int set, int head) {
            int heads = Integer.bitCount(head);
            if (set == 0 || (head & set) != 0 || heads > Integer.bitCount(set)) return false;
            return heads == 0 || halving.mostPairs(net.next, head, set) == heads;
        }

        void find(Net net, Halves halving, Covers covering) {
            int all = net.all();
            many = 0;
            greatest = 0;
            covering.spread(net);
            for (int set = 1; set <= all; set++) {
                if (!isOne(net, halving, set, covering.perSet[set])) continue;
                many++;
                if (Integer.bitCount(set) > Integer.bitCount(greatest)) greatest = set;
            }
        }
    }

    /** Rounds of rules that leave a kernel. */
    private static final class Kernel {
        private final Halves halving = new Halves();
        final int[] rules = new int[MOST_POINTS];
        final int[] going = new int[MOST_POINTS];
        final int[] taking = new int[MOST_POINTS];
        int rounds = 0;
        int left = 0;
        int took = 0;
        int k = 0;

        void reduce(Net net, int atFirst) {
            rounds = 0;
            left = net.all();
            took = 0;
            k = atFirst;
            // each round takes one point away at least
            for (int i = 0; i < MOST_POINTS && k >= 0; i++) {
                if (!doesRound(net.next)) break;
            }
        }

        private boolean doesRound(int[] next) {
            int p = leastWith(next, 0, 0);
            if (p >= 0) return goes(0, 1 << p, 0);
            p = leastWith(next, k + 1, MOST_POINTS);
            if (p >= 0) return goes(1, 1 << p, 1 << p);
            p = leastWith(next, 1, 1);
            if (p >= 0) return goes(2, 1 << p | next[p] & left, next[p] & left);
            if (left == 0) return false;
            halving.settle(next, left);
            if (halving.zeros == 0) return false;
            return goes(3, halving.zeros | halving.twos, halving.twos);
        }

        /** The least point left with so many lines to such as are left, or NONE. */
        private int leastWith(int[] next, int from, int to) {
            for (int p = 0; p < MOST_POINTS; p++) {
                if ((left >> p & 1) != 0 && within(Integer.bitCount(next[p] & left), from, to)) return p;
            }
            return NONE;
        }

        private boolean goes(int rule, int set, int takenOfIt) {
            if (rounds >= MOST_POINTS) return false;
            rules[rounds] = rule;
            going[rounds] = set;
            taking[rounds] = takenOfIt;
            rounds++;
            left &= ~set;
            took |= takenOfIt;
            k -= Integer.bitCount(takenOfIt);
            return true;
        }

        boolean refuses() {
            return k < 0 || Integer.bitCount(left) > 2 * k;
        }
    }

    /** Packs of twos and threes. */
    private static final class Packing {
        private static final int A_WORTH = 16;
        // of each set of points the best pack in it: worths, less one for each set of the pack
        private final int[] best;
        int worth = 0;
        int sets = 0;

        Packing(int[] row) {
            best = row;
        }

        void findBest(Net net) {
            int all = net.all();
            best[0] = 0;
            for (int set = 1; set <= all; set++) {
                best[set] = bestOf(net.next, set);
            }
            worth = (best[all] + A_WORTH - 1) / A_WORTH;
            sets = worth * A_WORTH - best[all];
        }

        private int bestOf(int[] next, int set) {
            int rest = set & (set - 1);
            int near = next[Integer.numberOfTrailingZeros(set)] & rest;
            int found = best[rest];
            for (int q = 0; q < MOST_POINTS; q++) {
                if ((near >> q & 1) == 0) continue;
                int others = rest & ~(1 << q);
                found = Math.max(found, best[others] + A_WORTH - 1);
                int thirds = near & next[q] & (-1 << q);
                for (int r = q + 1; r < MOST_POINTS && thirds >> r != 0; r++) {
                    if ((thirds >> r & 1) == 0) continue;
                    found = Math.max(found, best[others & ~(1 << r)] + 2 * A_WORTH - 1);
                }
            }
            return found;
        }

        boolean canHold(Net net, int set) {
            if (!net.hasAll(set) || !within(Integer.bitCount(set), 2, 3)) return false;
            for (int p = 0; p < net.size; p++) {
                if ((set >> p & 1) != 0 && (set & ~(1 << p) & ~net.next[p]) != 0) return false;
            }
            return true;
        }
    }

    /** The search that alternates, a node of it that is asked for, and refusals read again. */
    private static final class Search {
        private final Halves halving = new Halves();
        // more of them are never told
        final int[] branches = new int[MOST_NUMBERS];
        int nodes = 0;
        int refused = 0;
        int deepest = 0;
        int found = 0;
        boolean finds = false;
        private int wanted = NONE;
        int branchThere = NONE;
        int leftThere = 0;
        int takenThere = 0;
        int kThere = 0;
        int depthThere = 0;
        private int place = 0;

        void run(Net net, int k, int wantedNode) {
            nodes = 0;
            refused = 0;
            deepest = 0;
            found = 0;
            finds = false;
            wanted = wantedNode;
            begins(net.next, net.all(), 0, k, 0);
        }

        private void begins(int[] next, int left, int taken, int k, int depth) {
            if (finds || depth > MOST_POINTS) return;
            boolean refusedHere = halving.least(next, left) > 2 * k;
            int p = refusedHere ? NONE : Net.busiest(next, left);
            if (nodes == wanted) keep(p, left, taken, k, depth);
            if (nodes < MOST_NUMBERS) branches[nodes] = p;
            nodes++;
            deepest = Math.max(deepest, depth);
            if (refusedHere) {
                refused++;
                return;
            }
            if (p < 0) {
                finds = true;
                found = taken;
                return;
            }
            int near = next[p] & left;
            int rest = left & ~(1 << p);
            int otherK = k - Integer.bitCount(near);
            boolean oneFirst = depth % 2 == 0;
            if (oneFirst) begins(next, rest, taken | 1 << p, k - 1, depth + 1);
            begins(next, rest & ~near, taken | near, otherK, depth + 1);
            if (!oneFirst) begins(next, rest, taken | 1 << p, k - 1, depth + 1);
        }

        private void keep(int p, int left, int taken, int k, int depth) {
            branchThere = p;
            leftThere = left;
            takenThere = taken;
            kThere = k;
            depthThere = depth;
        }

        /** The first place of a row that isn't right, read for k, or NONE. */
        int firstWrong(Net net, int k, int[] row, int size) {
            place = 0;
            boolean right = readsRight(net.next, row, size, net.all(), k, 0);
            return right && place == size ? NONE : place;
        }

        private boolean readsRight(int[] next, int[] row, int size, int part, int k, int depth) {
            if (place >= size || depth > MOST_POINTS) return false;
            int p = row[place];
            if (p == NONE) {
                if (halving.least(next, part) <= 2 * k) return false;
                place++;
                return true;
            }
            if (!within(p, 0, MOST_POINTS - 1) || (part >> p & 1) == 0) return false;
            int near = next[p] & part;
            if (near == 0) return false;
            place++;
            int rest = part & ~(1 << p);
            int otherK = k - Integer.bitCount(near);
            if (depth % 2 == 0) {
                return readsRight(next, row, size, rest, k - 1, depth + 1)
                        && readsRight(next, row, size, rest & ~near, otherK, depth + 1);
            }
            return readsRight(next, row, size, rest & ~near, otherK, depth + 1)
                    && readsRight(next, row, size, rest, k - 1, depth + 1);
        }
    }

    /** Nodes of a tree, each behind the one that it stands in. */
    private static final class Tree {
        static final int BY_NOTHING = 0, BY_NODES = 1, BY_COST = 2;
        final int[] kinds = new int[MOST_NODES];
        final int[] weights = new int[MOST_NODES];
        final int[] parents = new int[MOST_NODES];
        private final int[] sumWith = new int[MOST_NODES];
        private final int[] sumWithout = new int[MOST_NODES];
        private final long[] manyWith = new long[MOST_NODES];
        private final long[] manyWithout = new long[MOST_NODES];
        private final long[] manyNeedy = new long[MOST_NODES];
        int size = 0;

        boolean has(int v) {
            return v >= 0 && v < size;
        }

        boolean add(int parent) {
            if (size >= MOST_NODES) return false;
            kinds[size] = POINT;
            weights[size] = 1;
            parents[size] = parent;
            size++;
            return true;
        }

        void lastIsOf(int kind) {
            if (size > 0) kinds[size - 1] = kind;
        }

        void lastWeighs(int weight) {
            if (size > 0) weights[size - 1] = weight;
        }

        int price(int v) {
            int lines = v == 0 ? 0 : 1;
            for (int u = v + 1; u < size; u++) {
                if (parents[u] == v) lines++;
            }
            return priceBy(kinds[v], weights[v], lines, v);
        }

        int under(int v) {
            long found = 1L << v;
            for (int u = v + 1; u < size; u++) {
                if ((found >>> parents[u] & 1) != 0) found |= 1L << u;
            }
            return Long.bitCount(found) - 1;
        }

        long marks() {
            long marked = 0;
            for (int v = size - 1; v > 0; v--) {
                if (((marked >>> v | marked >>> parents[v]) & 1) == 0) marked |= 1L << parents[v];
            }
            return marked;
        }

        int leastSum(int by) {
            sumUp(by);
            return Math.min(sumWith[0], sumWithout[0]);
        }

        long howManyLeast(int by) {
            sumUp(by);
            return manyOf(0, Math.min(sumWith[0], sumWithout[0]));
        }

        private long manyOf(int v, int sum) {
            return (sumWith[v] == sum ? manyWith[v] : 0) + (sumWithout[v] == sum ? manyWithout[v] : 0);
        }

        /** Covers of what is at and under each node, with it and without it: the least sums, how many have them. */
        private void sumUp(int by) {
            for (int v = 0; v < size; v++) {
                sumWith[v] = by == BY_COST ? price(v) : by;
                sumWithout[v] = 0;
                manyWith[v] = 1;
                manyWithout[v] = 1;
            }
            // those under a node stand behind it, so each is whole when it comes to its parent
            for (int v = size - 1; v > 0; v--) {
                int up = parents[v];
                int least = Math.min(sumWith[v], sumWithout[v]);
                sumWith[up] += least;
                manyWith[up] *= manyOf(v, least);
                sumWithout[up] += sumWith[v];
                manyWithout[up] *= manyWith[v];
            }
        }

        /** A node of a bare cover is needy while no one that stands in it is outside: then its parent must be. */
        long howManyBare() {
            Arrays.fill(manyWith, 1L);
            Arrays.fill(manyWithout, 1L);
            Arrays.fill(manyNeedy, 1L);
            for (int v = size - 1; v > 0; v--) {
                int up = parents[v];
                long content = manyWith[v] - manyNeedy[v];
                manyWith[up] *= manyWithout[v] + content;
                manyNeedy[up] *= content;
                manyWithout[up] *= manyWith[v];
            }
            return manyWithout[0] + manyWith[0] - manyNeedy[0];
        }
    }

    /** Bytes that tell a tree. */
    private static final class Tape {
        // what has come last of the text, which says what may come next
        private static final int AHEAD = 0, OPENED = 1, NAMED = 2, INSIDE = 3, BEHIND = 4, WRONG = 5;
        private final int[] bytes = new int[MOST_BYTES];
        private final int[] open = new int[MOST_OPEN];
        private int opened = 0;
        int size = 0;

        void put(int b) {
            if (size >= MOST_BYTES) return;
            bytes[size] = b;
            size++;
        }

        /** Reads the tape into a tree: the place of its fault, or NONE. */
        int fault(Tree out) {
            int came = AHEAD;
            int from = 0;
            out.size = 0;
            opened = 0;
            for (int steps = 0; steps < MOST_BYTES && from < size; steps++) {
                int to = endOfToken(from);
                if (bytes[from] != ' ') came = behindToken(came, from, to, out);
                if (came == WRONG) return from;
                from = to;
            }
            return came == BEHIND ? NONE : size;
        }

        private static boolean isLetter(int b) {
            return b >= 'a' && b <= 'z';
        }

        private static boolean isDigit(int b) {
            return b >= '0' && b <= '9';
        }

        private int endOfToken(int from) {
            int to = from + 1;
            if (isLetter(bytes[from])) {
                while (to < size && isLetter(bytes[to])) to++;
            } else if (isDigit(bytes[from])) {
                while (to < size && isDigit(bytes[to])) to++;
            }
            return to;
        }

        private int behindToken(int came, int from, int to, Tree out) {
            int b = bytes[from];
            if (b == '(') return behindOpening(came, out);
            if (b == ')') return behindClosing(came);
            if (isLetter(b) && came == OPENED) {
                int kind = kindOf(from, to);
                if (kind < 0) return WRONG;
                out.lastIsOf(kind);
                return NAMED;
            }
            if (isDigit(b) && (came == OPENED || came == NAMED)) {
                if (to - from != 1 || b == '0') return WRONG;
                out.lastWeighs(b - '0');
                return INSIDE;
            }
            return WRONG;
        }

        private int behindOpening(int came, Tree out) {
            if (came == BEHIND || opened >= MOST_OPEN) return WRONG;
            int parent = opened == 0 ? NONE : open[opened - 1];
            if (!out.add(parent)) return WRONG;
            open[opened] = out.size - 1;
            opened++;
            return OPENED;
        }

        private int behindClosing(int came) {
            if (came == AHEAD || came == BEHIND || opened == 0) return WRONG;
            opened--;
            return opened == 0 ? BEHIND : INSIDE;
        }

        private int kindOf(int from, int to) {
            for (int kind = 0; kind < KINDS; kind++) {
                if (says(wordOf(kind), from, to)) return kind;
            }
            return NONE;
        }

        private boolean says(String word, int from, int to) {
            if (word.length() != to - from) return false;
            for (int i = 0; i < word.length(); i++) {
                if (bytes[from + i] != word.charAt(i)) return false;
            }
            return true;
        }

        private static String wordOf(int kind) {
            switch (kind) {
                case TOLL: return "toll";
                case CLUB: return "club";
                case KEEPER: return "keeper";
                case GUILD: return "guild";
                case WARDEN: return "warden";
                default: return "point";
            }
        }
    }

    /** Rows of bytes, shorts or ints. */
    private static final class Sheets {
        final int[][] rows = new int[MOST_SHEETS][MOST_NUMBERS];
        final int[] sorts = {MISSING, MISSING, MISSING, MISSING};
        final int[] sizes = new int[MOST_SHEETS];

        boolean has(int s) {
            return s >= 0 && s < MOST_SHEETS;
        }

        boolean isMissing(int s) {
            return sorts[s] == MISSING;
        }

        void begin(int s, int sort, int n) {
            sorts[s] = sort;
            sizes[s] = n;
            Arrays.fill(rows[s], 0);
        }

        /** Why there is no number i of a sheet, or 0 if there is. */
        int refusal(int s, int i) {
            if (!has(s)) return BAD;
            if (isMissing(s)) return NOTHING_HELD;
            return i >= 0 && i < sizes[s] ? 0 : OUTSIDE;
        }

        boolean hasRange(int s, int from, int n) {
            return n >= 0 && from >= 0 && from <= sizes[s] && n <= sizes[s] - from;
        }

        void put(int s, int i, int v) {
            int lowest = v;
            if (sorts[s] == BYTES) lowest = (byte) v;
            if (sorts[s] == SHORTS) lowest = (short) v;
            rows[s][i] = lowest;
        }
    }

    /** Of a row that a shelf holds only its sort and size are ever told. */
    private static final class Shelves {
        static final int NOTHING = 0, A_POINT = 1, A_ROW = 2;
        final int[] holds = new int[MOST_SHELVES];
        final int[] sorts = new int[MOST_SHELVES];
        final int[] numbers = new int[MOST_SHELVES];

        boolean has(int h) {
            return h >= 0 && h < MOST_SHELVES;
        }

        void holdPoint(int h, int p) {
            holds[h] = A_POINT;
            numbers[h] = p;
        }

        void holdRow(int h, int sort, int size) {
            holds[h] = sort == MISSING ? NOTHING : A_ROW;
            sorts[h] = sort;
            numbers[h] = size;
        }

        void holdNothing(int h) {
            holds[h] = NOTHING;
        }
    }
}
