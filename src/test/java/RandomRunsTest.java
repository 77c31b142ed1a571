import java.util.Random;

/** Runs of calls by chance (always the same ones), answered by LinesTouched and by PlainModel. */
public final class RandomRunsTest {
    private static int wrong = 0;
    private static final int[] EDGES = {
        -1, -2, 4, 5, 6, 12, 13, 60, 61, 255, 4095, 4096, Integer.MIN_VALUE, Integer.MAX_VALUE, 1 << 30};
    private static final String[] WORDS = {"point", "toll", "club", "keeper", "guild", "warden"};

    private final Random chance;
    private final LinesTouched x = new LinesTouched();
    private final PlainModel y = new PlainModel();
    private final int run;
    private final int most;
    private final StringBuilder told = new StringBuilder();
    private boolean failed = false;

    private RandomRunsTest(int run) {
        this.run = run;
        chance = new Random(run);
        most = run % 25 == 0 ? 12 : 1 + chance.nextInt(9);
    }

    private int upTo(int n) {
        return chance.nextInt(n + 1);
    }

    /** Mostly 0 to n, now and then another number. */
    private int about(int n) {
        return chance.nextInt(30) == 0 ? EDGES[chance.nextInt(EDGES.length)] : upTo(n);
    }

    private int p() {
        return chance.nextInt(25) == 0 ? about(13) : upTo(Math.max(0, x.count(0) - 1));
    }

    private int set() {
        return chance.nextInt(30) == 0 ? EDGES[chance.nextInt(EDGES.length)] : upTo((1 << x.count(0)) - 1);
    }

    private int k() {
        return chance.nextInt(4) == 0 ? about(12) : Math.max(0, x.fewest(0) - 2 + upTo(3));
    }

    private void due(String call, long got, long want, int... args) {
        told.append(call).append(java.util.Arrays.toString(args)).append(" -> ").append(want).append('\n');
        if (got == want || failed) return;
        failed = true;
        wrong++;
        System.out.println("run " + run + ":\n" + told + "but the answer was " + got);
    }

    private void callNet(int which) {
        int a = p();
        int b = p();
        int c;
        switch (which) {
            case 0:
                if (x.count(0) >= most && chance.nextInt(10) > 0) return;
                c = about(5);
                b = 1 + about(8);
                due("point", x.point(c, b), y.point(c, b), c, b);
                break;
            case 1:
                c = chance.nextInt(20) == 0 ? about(2) : chance.nextInt(3) > 0 ? 1 : 0;
                due("line", x.line(a, b, c), y.line(a, b, c), a, b, c);
                break;
            case 2: c = about(4); due("pointOf", x.pointOf(a, c), y.pointOf(a, c), a, c); break;
            case 3:
                c = about(1);
                b = about(9);
                due("change", x.change(a, c, b), y.change(a, c, b), a, c, b);
                break;
            case 4: c = about(5); due("count", x.count(c), y.count(c), c); break;
            case 5: c = set(); due("isCover", x.isCover(c), y.isCover(c), c); break;
            case 6: c = set(); due("costOf", x.costOf(c), y.costOf(c), c); break;
            case 7: c = about(4); due("fewest", x.fewest(c), y.fewest(c), c); break;
            case 8: c = about(2); due("dear", x.dear(c), y.dear(c), c); break;
            case 9: c = about(12); due("sized", x.sized(c), y.sized(c), c); break;
            case 10: c = about(2); due("bare", x.bare(c), y.bare(c), c); break;
            default: c = about(1); due("share", x.share(c), y.share(c), c); break;
        }
    }

    private void callHalves(int which) {
        int a = p();
        int c = about(4);
        int k = k();
        switch (which) {
            case 0: c = about(3); due("halves", x.halves(c), y.halves(c), c); break;
            case 1: due("half", x.half(a), y.half(a), a); break;
            case 2: due("mayHave", x.mayHave(a), y.mayHave(a), a); break;
            case 3: due("mate", x.mate(a), y.mate(a), a); break;
            case 4: due("persists", x.persists(), y.persists()); break;
            case 5: c = set(); due("isCrown", x.isCrown(c), y.isCrown(c), c); break;
            case 6: c = about(2); due("crowns", x.crowns(c), y.crowns(c), c); break;
            case 7: due("kernel", x.kernel(k, c), y.kernel(k, c), k, c); break;
            case 8:
                a = about(Math.max(0, y.kernel(Math.min(12, Math.max(0, k)), 3)));
                c = about(2);
                due("round", x.round(k, a, c), y.round(k, a, c), k, a, c);
                break;
            case 9: c = about(1); due("pack", x.pack(c), y.pack(c), c); break;
            case 10: due("search", x.search(k, c), y.search(k, c), k, c); break;
            case 11:
                a = about(Math.max(0, y.search(Math.min(12, Math.max(0, k)), 1)));
                due("node", x.node(k, a, c), y.node(k, a, c), k, a, c);
                break;
            case 12: a = p(); due("without", x.without(a), y.without(a), a); break;
            case 13: c = about(1); due("cut", x.cut(c), y.cut(c), c); break;
            case 14: c = about(1); due("joins", x.joins(c), y.joins(c), c); break;
            case 15: c = about(2); due("pays", x.pays(c), y.pays(c), c); break;
            default: c = p(); due("paid", x.paid(a, c), y.paid(a, c), a, c); break;
        }
    }

    private void callSheets(int which) {
        int s = about(3);
        int i = about(5);
        int c;
        switch (which) {
            case 0:
                c = about(2) - (chance.nextInt(12) == 0 ? 1 : 0);
                i = chance.nextInt(3) == 0 ? about(8) : x.count(0);
                due("sheet", x.sheet(s, c, i), y.sheet(s, c, i), s, c, i);
                break;
            case 1:
                c = chance.nextInt(4) == 0 ? chance.nextInt() : about(3) - upTo(1);
                due("write", x.write(s, i, c), y.write(s, i, c), s, i, c);
                break;
            case 2: due("item", x.item(s, i), y.item(s, i), s, i); break;
            case 3:
                c = about(3);
                int j = about(4);
                int n = about(4);
                due("copy", x.copy(s, i, c, j, n), y.copy(s, i, c, j, n), s, i, c, j, n);
                break;
            case 4: due("load", x.load(s), y.load(s), s); break;
            case 5: due("judge", x.judge(s), y.judge(s), s); break;
            case 6:
                c = about(2);
                i = about(4);
                due("shelf", x.shelf(s, c, i), y.shelf(s, c, i), s, c, i);
                break;
            case 7: c = about(12); due("taken", x.taken(s, c), y.taken(s, c), s, c); break;
            case 8: due("packs", x.packs(s), y.packs(s), s); break;
            case 9: c = k(); due("prove", x.prove(s, c), y.prove(s, c), s, c); break;
            default: c = k(); due("proves", x.proves(s, c), y.proves(s, c), s, c); break;
        }
    }

    /** Halves, sets of a pack or a refusal written to a sheet, often right but for a number or two. */
    private void writeRow() {
        int s = upTo(3);
        int n = x.count(0);
        int sort = upTo(2);
        int kind = upTo(2);
        if (kind == 0) {
            due("sheet", x.sheet(s, sort, n), y.sheet(s, sort, n), s, sort, n);
            for (int i = 0; i < n; i++) put(s, i, x.half(i));
            if (upTo(1) == 0 && n > 0) put(s, upTo(n - 1), upTo(2));
            due("judge", x.judge(s), y.judge(s), s);
        } else if (kind == 1) {
            n = upTo(4);
            due("sheet", x.sheet(s, 1 + sort % 2, n), y.sheet(s, 1 + sort % 2, n), s, 1 + sort % 2, n);
            for (int i = 0; i < n; i++) put(s, i, edgeSet());
            due("packs", x.packs(s), y.packs(s), s);
        } else {
            int k = Math.max(0, x.fewest(0) - 1 - upTo(1));
            due("prove", x.prove(s, k), y.prove(s, k), s, k);
            if (upTo(1) == 0) put(s, upTo(6), p() - upTo(1));
            due("proves", x.proves(s, k), y.proves(s, k), s, k);
        }
    }

    private int edgeSet() {
        int a = p() & 15;
        int near = x.pointOf(a, 3);
        int set = 1 << a;
        for (int i = 0; i < 1 + upTo(1) && near > 0; i++) {
            int b = Integer.numberOfTrailingZeros(near);
            set |= 1 << b;
            near &= x.pointOf(b, 3) & ~(1 << b);
        }
        return chance.nextInt(8) == 0 ? set() : set;
    }

    private void put(int s, int i, int v) {
        due("write", x.write(s, i, v), y.write(s, i, v), s, i, v);
    }

    private void grow(StringBuilder text, int open, int[] left) {
        text.append('(');
        if (upTo(1) == 0) text.append(WORDS[upTo(5)]);
        if (upTo(3) == 0) text.append(' ');
        if (upTo(1) == 0) text.append(1 + upTo(8));
        while (left[0] > 0 && open < 22 && upTo(5) > 1) {
            left[0]--;
            grow(text, open + 1, left);
        }
        text.append(')');
        if (upTo(9) == 0) text.append(' ');
    }

    private String someText() {
        StringBuilder text = new StringBuilder();
        int sort = upTo(9);
        grow(text, 1, new int[] {sort == 0 ? 64 : upTo(13)});
        if (sort == 1) text.setLength(upTo(text.length()));
        if (sort == 2) text.setCharAt(upTo(text.length() - 1), "()a05 Zp!".charAt(upTo(8)));
        if (sort == 3) text.insert(upTo(text.length()), "()a05 Zp!".charAt(upTo(8)));
        if (sort == 4) text.deleteCharAt(upTo(text.length() - 1));
        return text.toString();
    }

    private void callTree(int which) {
        int c;
        switch (which) {
            case 0:
                c = about(4);
                int v = chance.nextInt();
                due("feed", x.feed(v, c), y.feed(v, c), v, c);
                break;
            case 1: due("wipe", x.wipe(), y.wipe()); break;
            case 2:
                String text = someText();
                for (int i = 0; i < text.length(); i++) {
                    c = text.charAt(i);
                    due("feed", x.feed(c, 1), y.feed(c, 1), c, 1);
                }
                due("text", x.text(), y.text());
                break;
            case 3: due("text", x.text(), y.text()); break;
            case 4: due("plant", x.plant(), y.plant()); break;
            case 5:
            case 6: c = about(5); due("tree", x.tree(c), y.tree(c), c); break;
            default:
                c = about(Math.max(0, x.count(5)));
                int what = about(5);
                due("treeOf", x.treeOf(c, what), y.treeOf(c, what), c, what);
                break;
        }
    }

    private void callDraws(int which) {
        int c;
        switch (which) {
            case 0: c = chance.nextInt(); due("seed", x.seed(c), y.seed(c), c); break;
            case 1:
                c = about(most);
                if (c > most && c <= 12) return;
                int odds = about(10);
                due("deal", x.deal(c, odds), y.deal(c, odds), c, odds);
                break;
            case 2:
                c = 1 + about(3);
                int points = about(6);
                int o = about(10);
                int k = about(6);
                due("times", x.times(c, points, o, k), y.times(c, points, o, k), c, points, o, k);
                break;
            case 3: due("image", x.image(), y.image()); break;
            default: due("back", x.back(), y.back()); break;
        }
    }

    private void go() {
        for (int i = 0; i < 250 && !failed; i++) {
            int sort = upTo(99);
            if (i < most || sort < 30) callNet(i < most ? 0 : sort < 12 ? 1 : upTo(11));
            else if (sort < 62) callHalves(upTo(16));
            else if (sort < 80) callSheets(upTo(10));
            else if (sort < 86) writeRow();
            else if (sort < 96) callTree(upTo(8));
            else callDraws(upTo(4));
        }
    }

    public static void main(String[] args) {
        int runs = args.length > 0 ? Integer.parseInt(args[0]) : 600;
        for (int run = 0; run < runs && wrong < 5; run++) new RandomRunsTest(run).go();
        System.out.println(wrong == 0 ? "random runs: all answers alike" : "random runs: " + wrong + " unlike");
        if (wrong != 0) System.exit(1);
    }
}
