/** Each promise of the document by answers that were worked out by hand: ordinary, at its edges, refused. */
public final class PromisesTest {
    private static final int NONE = LinesTouched.NONE, BAD = LinesTouched.BAD;
    private static final int STATE = LinesTouched.STATE, FULL = LinesTouched.FULL;
    private static final int LOW = Integer.MIN_VALUE, HIGH = Integer.MAX_VALUE;
    private static int wrong = 0;

    private static void due(int promise, String what, long got, long want) {
        if (got == want) return;
        wrong++;
        System.out.println("promise " + promise + ": " + what + " answered " + got + ", due is " + want);
    }

    /** Points of kind 0 and weight 1, and lines told by their ends. */
    private static LinesTouched net(int points, int... ends) {
        LinesTouched x = new LinesTouched();
        for (int i = 0; i < points; i++) x.point(0, 1);
        for (int i = 0; i + 1 < ends.length; i += 2) x.line(ends[i], ends[i + 1], 1);
        return x;
    }

    private static LinesTouched path3() {
        return net(3, 0, 1, 1, 2);
    }

    private static LinesTouched triangle() {
        return net(3, 0, 1, 1, 2, 2, 0);
    }

    private static LinesTouched whole(int points) {
        LinesTouched x = net(points);
        for (int a = 0; a < points; a++) for (int b = a + 1; b < points; b++) x.line(a, b, 1);
        return x;
    }

    /** A triangle of 0, 1, 2 with 3 hanging at 0. */
    private static LinesTouched flag() {
        return net(4, 0, 1, 1, 2, 2, 0, 0, 3);
    }

    private static void row(LinesTouched x, int s, int sort, int... numbers) {
        x.sheet(s, sort, numbers.length);
        for (int i = 0; i < numbers.length; i++) x.write(s, i, numbers[i]);
    }

    private static int read(LinesTouched x, String text) {
        x.wipe();
        for (int i = 0; i < text.length(); i++) x.feed(text.charAt(i), 1);
        return x.text();
    }

    private static void newObject() {
        LinesTouched x = new LinesTouched();
        int[] counts = {0, 0, 0, 0, 1, 0};
        for (int what = 0; what < 6; what++) due(1, "count " + what, x.count(what), counts[what]);
        due(1, "tree", x.tree(0), NONE);
        due(1, "back", x.back(), STATE);
        for (int i = 0; i < 4; i++) {
            due(1, "item", x.item(i, 0), -11);
            due(1, "taken", x.taken(i, 0), -11);
        }
        due(1, "wipe", x.wipe(), 0);
        due(1, "NONE", LinesTouched.NONE, -1);
        due(1, "BAD", LinesTouched.BAD, -2);
        due(1, "STATE", LinesTouched.STATE, -3);
        due(1, "FULL", LinesTouched.FULL, -4);
    }

    private static void points() {
        LinesTouched x = new LinesTouched();
        for (int[] bad : new int[][] {{-1, 1}, {6, 1}, {0, 0}, {0, 10}, {LOW, 1}, {0, HIGH}})
            due(2, "bad", x.point(bad[0], bad[1]), BAD);
        for (int i = 0; i < 12; i++) due(2, "point", x.point(i % 6, 1 + i % 9), i);
        due(2, "full", x.point(0, 1), FULL);
        due(2, "bad ahead of full", x.point(6, 1), BAD);
        due(2, "count", x.count(0), 12);
        due(2, "kind", x.pointOf(11, 0), 5);
        due(2, "weight", x.pointOf(8, 1), 9);
    }

    private static void lines() {
        LinesTouched x = net(3);
        due(3, "new", x.line(2, 0, 1), 0);
        due(3, "again", x.line(0, 2, 1), 1);
        due(3, "next to 0", x.pointOf(0, 3), 4);
        due(3, "next to 2", x.pointOf(2, 3), 1);
        due(3, "off", x.line(0, 2, 0), 1);
        due(3, "off again", x.line(2, 0, 0), 0);
        due(3, "none", x.count(1), 0);
        for (int[] bad : new int[][] {{1, 1, 1}, {0, 3, 1}, {-1, 0, 1}, {0, 1, 2}, {0, 1, -1}, {LOW, HIGH, 0}})
            due(3, "bad", x.line(bad[0], bad[1], bad[2]), BAD);
    }

    private static void pointsTold() {
        LinesTouched x = new LinesTouched();
        for (int kind = 0; kind < 6; kind++) x.point(kind, 7);
        int[] lonely = {7, 7, 14, 5, 18, 3};
        for (int p = 0; p < 6; p++) due(4, "cost without lines " + p, x.pointOf(p, 2), lonely[p]);
        for (int a = 0; a < 6; a++) for (int b = a + 1; b < 6; b++) x.line(a, b, 1);
        int[] costs = {7, 12, 14, 10, 18, 6};
        for (int p = 0; p < 6; p++) {
            due(4, "kind", x.pointOf(p, 0), p);
            due(4, "weight", x.pointOf(p, 1), 7);
            due(4, "cost " + p, x.pointOf(p, 2), costs[p]);
            due(4, "next", x.pointOf(p, 3), 63 & ~(1 << p));
            due(4, "lines", x.pointOf(p, 4), 5);
        }
        x = new LinesTouched();
        x.point(3, 1);
        x.point(5, 1);
        due(4, "keeper, 1 at least", x.pointOf(0, 2), 1);
        due(4, "warden", x.pointOf(1, 2), 1);
        for (int[] bad : new int[][] {{-1, 0}, {2, 0}, {0, -1}, {0, 5}, {HIGH, LOW}})
            due(4, "bad", x.pointOf(bad[0], bad[1]), BAD);
    }

    private static void changes() {
        LinesTouched x = net(2);
        due(5, "kind", x.change(1, 0, 4), 0);
        due(5, "kind again", x.change(1, 0, 5), 4);
        due(5, "weight", x.change(1, 1, 9), 1);
        due(5, "weight again", x.change(1, 1, 2), 9);
        due(5, "kind now", x.pointOf(1, 0), 5);
        due(5, "weight now", x.pointOf(1, 1), 2);
        int[][] bads = {{2, 0, 0}, {-1, 0, 0}, {0, 2, 1}, {0, -1, 1}, {0, 0, 6}, {0, 0, -1}, {0, 1, 0}, {0, 1, 10}};
        for (int[] bad : bads) due(5, "bad", x.change(bad[0], bad[1], bad[2]), BAD);
        due(5, "kind stays", x.pointOf(0, 0), 0);
        due(5, "weight stays", x.pointOf(0, 1), 1);
    }

    private static void counts() {
        LinesTouched x = net(5, 0, 1, 1, 2);
        x.feed(0, 3);
        x.seed(-5);
        int[] counts = {5, 2, 2, 3, -5, 0};
        for (int what = 0; what < 6; what++) due(6, "count " + what, x.count(what), counts[what]);
        read(x, "(()())");
        due(6, "nodes", x.count(5), 3);
        due(6, "bad", x.count(-1), BAD);
        due(6, "bad", x.count(6), BAD);
    }

    private static void coversAsked() {
        LinesTouched x = path3();
        int[] answers = {0, 0, 2, 1, 0, 2, 1, 1};
        for (int set = 0; set < 8; set++) due(7, "isCover " + set, x.isCover(set), answers[set]);
        for (int bad : new int[] {8, -1, LOW, HIGH}) {
            due(7, "bad", x.isCover(bad), BAD);
            due(8, "bad", x.costOf(bad), BAD);
        }
        due(7, "no points", new LinesTouched().isCover(0), 2);
        due(7, "no such point", new LinesTouched().isCover(1), BAD);
        x.change(0, 1, 4);
        x.change(1, 0, 1);
        due(8, "none", x.costOf(0), 0);
        due(8, "two", x.costOf(3), 7);
        due(8, "all", x.costOf(7), 8);
    }

    private static void coversFound() {
        LinesTouched x = path3();
        int[] path = {1, 2, 1, 2, 5};
        int[] three = {2, 3, 3, 0, 0};
        LinesTouched y = triangle();
        for (int what = 0; what < 5; what++) {
            due(9, "path " + what, x.fewest(what), path[what]);
            due(9, "triangle " + what, y.fewest(what), three[what]);
        }
        due(9, "bad", x.fewest(-1), BAD);
        due(9, "bad", x.fewest(5), BAD);
        due(9, "twelve", whole(12).fewest(0), 11);
        due(9, "twelve ways", whole(12).fewest(2), 12);
        x.change(1, 1, 2);
        due(10, "cost", x.dear(0), 2);
        due(10, "least", x.dear(1), 2);
        due(10, "ways", x.dear(2), 2);
        x.change(1, 1, 3);
        due(10, "dearer", x.dear(0), 2);
        due(10, "ends", x.dear(1), 5);
        due(10, "one way", x.dear(2), 1);
        due(10, "bad", x.dear(3), BAD);
        due(10, "bad", x.dear(-1), BAD);
        int[] sizes = {0, 1, 3, 1, 0};
        for (int n = 0; n < 5; n++) due(11, "sized " + n, x.sized(n), sizes[n]);
        due(11, "middle", net(12).sized(6), 924);
        due(11, "all", whole(12).sized(12), 1);
        due(11, "bad", x.sized(13), BAD);
        due(11, "bad", x.sized(-1), BAD);
        due(12, "bare", x.bare(0), 2);
        due(12, "most", x.bare(1), 2);
        due(12, "which", x.bare(2), 5);
        due(12, "triangle", y.bare(0), 3);
        due(12, "triangle's least", y.bare(2), 3);
        due(12, "bad", x.bare(3), BAD);
        due(12, "bad", x.bare(-1), BAD);
        due(13, "above", x.share(0), 5);
        due(13, "below", x.share(1), 8);
        due(13, "lowest terms above", y.share(0), 1);
        due(13, "lowest terms below", y.share(1), 2);
        due(13, "no lines", net(12).share(1), 1);
        due(13, "bad", x.share(2), BAD);
        due(13, "bad", x.share(-1), BAD);
    }

    private static void halvesFound() {
        LinesTouched x = path3();
        LinesTouched y = triangle();
        LinesTouched f = flag();
        int[] path = {2, 5, 0, 2};
        int[] three = {3, 0, 7, 0};
        int[] hung = {4, 10, 0, 5};
        for (int what = 0; what < 4; what++) {
            due(14, "path " + what, x.halves(what), path[what]);
            due(14, "triangle " + what, y.halves(what), three[what]);
            due(14, "flag " + what, f.halves(what), hung[what]);
        }
        due(14, "0 first", net(4, 0, 1, 1, 2, 2, 3).halves(1), 5);
        due(14, "bad", x.halves(4), BAD);
        due(14, "bad", x.halves(-1), BAD);
        int[] rowOfFlag = {2, 0, 2, 0};
        for (int p = 0; p < 4; p++) due(15, "flag " + p, f.half(p), rowOfFlag[p]);
        due(15, "1", y.half(2), 1);
        due(15, "bad", y.half(3), BAD);
        due(15, "bad", y.half(-1), BAD);
        due(16, "end", x.mayHave(0), 1);
        due(16, "middle", x.mayHave(1), 4);
        due(16, "triangle", y.mayHave(0), 2);
        due(16, "flag's head", f.mayHave(0), 6);
        due(16, "flag", f.mayHave(1), 7);
        due(16, "flag's end", f.mayHave(3), 3);
        due(16, "one line", net(2, 0, 1).mayHave(1), 7);
        due(16, "lonely", net(1).mayHave(0), 1);
        due(16, "bad", x.mayHave(3), BAD);
        due(16, "bad", x.mayHave(-1), BAD);
    }

    private static void crownsFound() {
        LinesTouched x = path3();
        LinesTouched y = triangle();
        LinesTouched f = flag();
        int[] mates = {3, 2, 1, 0};
        for (int p = 0; p < 4; p++) due(17, "flag " + p, f.mate(p), mates[p]);
        due(17, "least one", x.mate(1), 0);
        due(17, "left over", x.mate(2), NONE);
        due(17, "no pairs", y.mate(0), NONE);
        due(17, "bad", y.mate(3), BAD);
        due(17, "bad", y.mate(-1), BAD);
        due(18, "path", x.persists(), 1);
        due(18, "triangle", y.persists(), 3);
        due(18, "flag", f.persists(), 1);
        due(18, "no points", new LinesTouched().persists(), 1);
        int[] path = {0, 1, 0, 0, 1, 1, 0, 0};
        for (int set = 0; set < 8; set++) due(19, "path " + set, x.isCrown(set), path[set]);
        due(19, "no head", net(1).isCrown(1), 1);
        due(19, "one head of two", net(5, 0, 2, 1, 2, 4, 2, 0, 3).isCrown(18), 1);
        due(19, "a head of two that only one of it is next to", net(4, 0, 2, 0, 3).isCrown(3), 0);
        due(19, "a head of three", net(5, 0, 2, 0, 3, 1, 4).isCrown(3), 0);
        for (int bad : new int[] {8, -1, LOW, HIGH}) due(19, "bad", x.isCrown(bad), BAD);
        due(20, "many", x.crowns(0), 3);
        due(20, "most points", x.crowns(1), 5);
        due(20, "its head", x.crowns(2), 2);
        due(20, "none", y.crowns(0), 0);
        due(20, "none", y.crowns(1), NONE);
        due(20, "none", y.crowns(2), NONE);
        due(20, "least of several", net(2, 0, 1).crowns(1), 1);
        due(20, "all", net(12).crowns(0), 4095);
        due(20, "bad", y.crowns(3), BAD);
        due(20, "bad", y.crowns(-1), BAD);
    }

    private static void kernels() {
        LinesTouched star = net(4, 0, 1, 0, 2, 0, 3);
        int[] byOne = {0, 1, 20, 4, 0};
        int[] byThree = {0, 1, 22, 3, 0};
        LinesTouched ring = net(5, 0, 1, 1, 2, 2, 3, 3, 4, 4, 0);
        int[] ringByTwo = {31, 0, 22, 0, 1};
        int[] ringByThree = {31, 0, 23, 0, 0};
        LinesTouched one = net(2, 0, 1);
        int[] oneByNone = {2, 1, 19, 1, 1};
        for (int what = 0; what < 5; what++) {
            due(21, "star by 1: " + what, star.kernel(1, what), byOne[what]);
            due(21, "star by 3: " + what, star.kernel(3, what), byThree[what]);
            due(21, "ring by 2: " + what, ring.kernel(2, what), ringByTwo[what]);
            due(21, "ring by 3: " + what, ring.kernel(3, what), ringByThree[what]);
            due(21, "line by 0: " + what, one.kernel(0, what), oneByNone[what]);
        }
        for (int[] bad : new int[][] {{-1, 0}, {13, 0}, {0, -1}, {0, 5}})
            due(21, "bad", star.kernel(bad[0], bad[1]), BAD);
        int[][] rounds = {{1, 1, 1}, {0, 2, 0}, {0, 4, 0}, {0, 8, 0}};
        for (int i = 0; i < 4; i++)
            for (int what = 0; what < 3; what++)
                due(22, "star " + i + ", " + what, star.round(1, i, what), rounds[i][what]);
        due(22, "rule 2", star.round(3, 0, 0), 2);
        due(22, "both go", star.round(3, 0, 1), 3);
        due(22, "one is taken", star.round(3, 0, 2), 1);
        LinesTouched four = net(4, 0, 1, 1, 2, 2, 3, 3, 0);
        due(22, "rule 3", four.round(2, 0, 0), 3);
        due(22, "all go", four.round(2, 0, 1), 15);
        due(22, "those with 2", four.round(2, 0, 2), 10);
        int[][] bads = {{-1, 0, 0}, {13, 0, 0}, {1, -1, 0}, {1, 4, 0}, {1, 0, -1}, {1, 0, 3}, {1, HIGH, 0}};
        for (int[] bad : bads) due(22, "bad", star.round(bad[0], bad[1], bad[2]), BAD);
        due(22, "no round", ring.round(3, 0, 0), BAD);
    }

    private static void packings() {
        int[] worths = {0, 0, 1, 2, 2, 3, 4};
        int[] sets = {0, 0, 1, 1, 1, 2, 2};
        for (int n = 0; n < 7; n++) {
            due(23, "worth " + n, whole(n).pack(0), worths[n]);
            due(23, "sets " + n, whole(n).pack(1), sets[n]);
        }
        due(23, "twelve", whole(12).pack(0), 8);
        due(23, "two twos", net(4, 0, 1, 1, 2, 2, 3).pack(0), 2);
        due(23, "bad", whole(2).pack(2), BAD);
        due(23, "bad", whole(2).pack(-1), BAD);
        LinesTouched x = flag();
        due(24, "missing", x.packs(0), -11);
        int[][] rows = {{}, {7}, {9, 6}, {6, 9}, {3, 5}, {9, 10}, {15}, {0}, {1}, {16}, {-1}, {3, 0}};
        int[] answers = {0, 2, 2, 2, -101, -101, -100, -100, -100, -100, -100, -101};
        for (int i = 0; i < rows.length; i++) {
            row(x, 0, i % 3, rows[i]);
            due(24, "row " + i, x.packs(0), answers[i]);
        }
        LinesTouched four = whole(4);
        row(four, 0, 0, 15);
        due(24, "no set of four", four.packs(0), -100);
        row(four, 0, 0, 12, 3);
        due(24, "two twos", four.packs(0), 2);
        due(24, "bad", x.packs(4), BAD);
        due(24, "bad", x.packs(-1), BAD);
    }

    private static void searches() {
        LinesTouched x = triangle();
        int[] byTwo = {1, 3, 5, 0, 2};
        int[] byOne = {0, 1, NONE, 1, 0};
        LinesTouched four = whole(4);
        int[] fourByTwo = {0, 3, NONE, 2, 1};
        for (int what = 0; what < 5; what++) {
            due(25, "triangle for 2: " + what, x.search(2, what), byTwo[what]);
            due(25, "triangle for 1: " + what, x.search(1, what), byOne[what]);
            due(25, "four for 2: " + what, four.search(2, what), fourByTwo[what]);
        }
        for (int[] bad : new int[][] {{-1, 0}, {13, 0}, {0, -1}, {0, 5}})
            due(25, "bad", x.search(bad[0], bad[1]), BAD);
        int[][] nodes = {{0, 7, 0, 22, 0}, {1, 6, 1, 21, 1}, {-1, 0, 5, 20, 2}};
        for (int i = 0; i < 3; i++)
            for (int what = 0; what < 5; what++)
                due(26, "node " + i + ", " + what, x.node(2, i, what), nodes[i][what]);
        due(26, "the other way", four.node(2, 2, 2), 14);
        due(26, "k below 0", four.node(2, 2, 3), 19);
        int[][] bads = {{-1, 0, 0}, {13, 0, 0}, {2, -1, 0}, {2, 3, 0}, {2, 0, -1}, {2, 0, 5}, {2, LOW, 0}};
        for (int[] bad : bads) due(26, "bad", x.node(bad[0], bad[1], bad[2]), BAD);
    }

    private static void proofs() {
        LinesTouched x = whole(4);
        due(27, "finds", x.prove(0, 3), NONE);
        due(27, "sheet stays missing", x.item(0, 0), -11);
        due(27, "nodes", x.prove(0, 2), 3);
        int[] told = {0, -1, -1};
        for (int i = 0; i < 3; i++) due(27, "number " + i, x.item(0, i), told[i]);
        x.shelf(0, 1, 0);
        due(27, "shorts", x.taken(0, 11), 3);
        for (int[] bad : new int[][] {{4, 2}, {-1, 2}, {0, -1}, {0, 13}}) {
            due(27, "bad", x.prove(bad[0], bad[1]), BAD);
            due(28, "bad", x.proves(bad[0], bad[1]), BAD);
        }
        due(28, "right", x.proves(0, 2), 0);
        due(28, "not for 3", x.proves(0, 3), 2);
        due(28, "missing", x.proves(1, 2), -11);
        int[][] rows = {{}, {-1}, {1, -1, -1}, {0, 2, -1}, {0, 2, -1, -1, -1}, {0, -1, -1, -1}, {4}, {-2}, {0, 0}};
        int[] answers = {1, 1, 0, 4, 0, 4, 1, 1, 2};
        for (int i = 0; i < rows.length; i++) {
            row(x, 1, i % 3, rows[i]);
            due(28, "row " + i, x.proves(1, 2), answers[i]);
        }
        LinesTouched twelve = whole(12);
        row(twelve, 0, 0, 11, -1, -1);
        due(28, "any point may branch, the last one, too", twelve.proves(0, 6), 0);
        row(twelve, 0, 0, 12, -1, -1);
        due(28, "no such point", twelve.proves(0, 6), 1);
        LinesTouched y = net(3, 0, 1);
        row(y, 0, 2, 2);
        due(28, "a point without a line", y.proves(0, 0), 1);
        row(y, 0, 2, 0, -1, -1);
        due(28, "though it is refused", y.proves(0, 0), 0);
    }

    private static void oneMoreOneLess() {
        LinesTouched x = path3();
        due(29, "middle", x.without(1), 0);
        due(29, "end", x.without(0), 1);
        due(29, "bad", x.without(3), BAD);
        due(29, "bad", x.without(-1), BAD);
        due(30, "none", x.cut(0), NONE);
        due(30, "none", x.cut(1), 0);
        due(30, "triangle", triangle().cut(0), 1);
        due(30, "triangle", triangle().cut(1), 3);
        due(30, "first", net(5, 0, 1, 1, 4, 2, 3).cut(0), 27);
        due(30, "one", net(5, 0, 1, 1, 4, 2, 3).cut(1), 1);
        due(30, "bad", x.cut(2), BAD);
        due(30, "bad", x.cut(-1), BAD);
        due(31, "ends", x.joins(0), 2);
        due(31, "one", x.joins(1), 1);
        due(31, "star", net(5, 2, 0, 2, 1, 2, 3, 2, 4).joins(0), 1);
        due(31, "star", net(5, 2, 0, 2, 1, 2, 3, 2, 4).joins(1), 6);
        due(31, "none", triangle().joins(0), NONE);
        due(31, "none", triangle().joins(1), 0);
        due(31, "bad", x.joins(2), BAD);
        due(31, "bad", x.joins(-1), BAD);
        x.change(0, 1, 3);
        x.change(1, 1, 5);
        x.change(2, 1, 4);
        int[] pays = {5, 3, 8};
        for (int what = 0; what < 3; what++) due(32, "pays " + what, x.pays(what), pays[what]);
        due(32, "bad", x.pays(3), BAD);
        due(32, "bad", x.pays(-1), BAD);
        due(33, "first", x.paid(1, 0), 3);
        due(33, "second", x.paid(1, 2), 2);
        due(33, "no line", x.paid(0, 2), NONE);
        for (int[] bad : new int[][] {{1, 1}, {0, 3}, {-1, 0}}) due(33, "bad", x.paid(bad[0], bad[1]), BAD);
        x.change(0, 1, 9);
        due(33, "the second pays nothing", x.paid(2, 1), 0);
    }

    private static void tapes() {
        LinesTouched x = new LinesTouched();
        due(34, "two", x.feed(0x41422829, 2), 2);
        due(36, "the highest first", x.text(), 1);
        due(34, "three", x.feed(0x41282029, 3), 3);
        due(36, "three", x.text(), 1);
        due(34, "four", x.feed(0x28352029, 4), 4);
        due(36, "four", x.text(), 1);
        due(34, "its weight", x.treeOf(0, 1), 5);
        due(34, "high bytes", x.feed(-1, 4), 4);
        due(36, "high bytes", x.text(), -100);
        for (int bad : new int[] {0, 5, -1, LOW, HIGH}) due(34, "bad", x.feed(40, bad), BAD);
        for (int i = 1; i < 50; i++) x.feed(0, 4);
        due(34, "198", x.feed(0, 2), 198);
        due(34, "full", x.feed(0, 3), FULL);
        due(34, "bad ahead of full", x.feed(0, 5), BAD);
        due(34, "200", x.feed(0, 2), 200);
        due(34, "full", x.feed(0, 1), FULL);
        due(35, "had", x.wipe(), 200);
        due(35, "empty", x.wipe(), 0);
        due(35, "again", x.feed(0, 1), 1);
    }

    private static void texts() {
        LinesTouched x = new LinesTouched();
        String[] texts = {"", "   ", "()", "(", "(point)", "(pointt)", "(poin)", "(5)", "(0)", "(10)", "(01)",
            "(5 toll)", "(toll 5)", "(toll5)", "(5toll)", "(5 5)", "(toll toll)", "(()5)", "(()toll)", "()x", "()()",
            "() ", " ( ) ", "())", ")", "a", "5", "(A)", "(\t)", "(tollz)", "(toll`)", "(toll{)", "(9:)", "(9/)", "(Z", "(()", "(toll", "(() (9(club)) (warden 3))"};
        int[] answers = {-100, -103, 1, -101, 1, -101, -101, 1, -101, -101, -101,
            -103, 1, 1, -102, -103, -106, -103, -103, -102, -102,
            1, 1, -102, -100, -100, -100, -101, -101, -101, -105, -105, -102, -102, -101, -103, -105, 5};
        for (int i = 0; i < texts.length; i++) {
            due(36, "'" + texts[i] + "'", read(x, texts[i]), answers[i]);
            due(36, "the tape is empty", x.count(3), 0);
        }
        due(36, "20 open", read(x, "(".repeat(20) + ")".repeat(20)), 20);
        due(36, "21 open", read(x, "(".repeat(21) + ")".repeat(21)), -120);
        due(36, "the tree stays", x.count(5), 20);
        due(36, "60 nodes", read(x, "(" + "()".repeat(59) + ")"), 60);
        due(36, "61 nodes", read(x, "(" + "()".repeat(60) + ")"), -219);
        due(36, "the tree stays", x.count(5), 60);
    }

    private static void trees() {
        LinesTouched x = new LinesTouched();
        String[] texts = {"()", "(())", "(5(2)(3))", "(toll 3 (club 2) (guild 1))", "(((())))"};
        long[][] answers = {{0, 2, 1, 0, 1, 1}, {1, 3, 2, 1, 2, 2}, {1, 5, 1, 5, 2, 2}, {1, 5, 1, 5, 1, 2},
            {2, 8, 3, 2, 3, 3}};
        due(37, "bad ahead of none", x.tree(6), BAD);
        due(37, "none", x.tree(5), NONE);
        for (int i = 0; i < texts.length; i++) {
            read(x, texts[i]);
            for (int what = 0; what < 6; what++)
                due(37, texts[i] + " " + what, x.tree(what), answers[i][what]);
        }
        read(x, "(" + "()".repeat(59) + ")");
        due(37, "very many", x.tree(1), (1L << 59) + 1);
        due(37, "bare ones", x.tree(5), 2);
        due(37, "bad", x.tree(-1), BAD);
    }

    private static void treesTold() {
        LinesTouched x = new LinesTouched();
        due(38, "no tree", x.treeOf(0, 0), BAD);
        due(39, "no tree", x.plant(), NONE);
        x.point(0, 1);
        read(x, "(warden 9 (keeper) (point 4 (guild 3)))");
        int[][] told = {{5, 9, NONE, 3, 5, 1}, {3, 1, 0, 0, 1, 0}, {0, 4, 0, 1, 4, 1}, {4, 3, 2, 0, 9, 0}};
        for (int v = 0; v < 4; v++)
            for (int what = 0; what < 6; what++)
                due(38, "node " + v + ", " + what, x.treeOf(v, what), told[v][what]);
        for (int[] bad : new int[][] {{-1, 0}, {4, 0}, {0, -1}, {0, 6}, {HIGH, 0}})
            due(38, "bad", x.treeOf(bad[0], bad[1]), BAD);
        due(39, "points", x.plant(), 4);
        due(39, "lines", x.count(1), 3);
        int[] next = {6, 1, 9, 4};
        for (int p = 0; p < 4; p++) {
            due(39, "kind", x.pointOf(p, 0), told[p][0]);
            due(39, "weight", x.pointOf(p, 1), told[p][1]);
            due(39, "cost", x.pointOf(p, 2), told[p][4]);
            due(39, "next", x.pointOf(p, 3), next[p]);
        }
        read(x, "(" + "()".repeat(11) + ")");
        due(39, "12 points", x.plant(), 12);
        due(39, "11 lines", x.pointOf(0, 4), 11);
        read(x, "(" + "()".repeat(12) + ")");
        due(39, "13 nodes", x.plant(), STATE);
        due(39, "points stay", x.count(0), 12);
        read(x, "()");
        due(39, "one", x.plant(), 1);
        x.point(0, 1);
        due(39, "no lines are left over", x.count(1), 0);
    }

    private static void draws() {
        LinesTouched x = new LinesTouched();
        due(40, "at first", x.seed(77), 1);
        due(40, "then", x.seed(LOW), 77);
        due(40, "z", x.count(4), LOW);
        x.seed(1);
        int z = 1103515245 + 12345;
        int kind = (z >>> 16) % 6;
        z = z * 1103515245 + 12345;
        due(41, "one point", x.deal(1, 10), 0);
        due(41, "kind", x.pointOf(0, 0), kind);
        due(41, "weight", x.pointOf(0, 1), 1 + (z >>> 16) % 9);
        due(41, "z", x.count(4), z);
        for (int[] bad : new int[][] {{-1, 0}, {13, 0}, {0, -1}, {0, 11}}) due(41, "bad", x.deal(bad[0], bad[1]), BAD);
        due(41, "points stay", x.count(0), 1);
        due(41, "z stays", x.count(4), z);
        due(41, "no odds", x.deal(12, 0), 0);
        due(41, "sure", x.deal(12, 10), 66);
        due(41, "no points", x.deal(0, 5), 0);
        due(41, "no points", x.count(0), 0);
        x.deal(3, 10);
        z = x.count(4);
        due(42, "11 are needed", x.times(20, 12, 10, 10), 0);
        due(42, "11 are enough", x.times(20, 12, 10, 11), 20);
        due(42, "no lines", x.times(1, 12, 0, 0), 1);
        int some = x.times(20, 7, 4, 3);
        due(42, "z stays", x.count(4), z);
        due(42, "lines stay", x.count(1), 3);
        int many = 0;
        for (int i = 0; i < 20; i++) {
            x.deal(7, 4);
            if (x.fewest(0) <= 3) many++;
        }
        due(42, "one behind another", some, many);
        int[][] bads = {{0, 1, 1, 1}, {21, 1, 1, 1}, {1, -1, 1, 1}, {1, 13, 1, 1}, {1, 1, -1, 1}, {1, 1, 11, 1},
            {1, 1, 1, -1}, {1, 1, 1, 13}};
        for (int[] bad : bads) due(42, "bad", x.times(bad[0], bad[1], bad[2], bad[3]), BAD);
    }

    private static void rows() {
        LinesTouched x = new LinesTouched();
        due(43, "bytes", x.sheet(0, 0, 60), 1);
        due(43, "shorts", x.sheet(1, 1, 2), 1);
        due(43, "ints", x.sheet(3, 2, 0), 1);
        int[][] refused = {{4, 0, 1, BAD}, {-1, 0, 1, BAD}, {0, 3, 1, BAD}, {0, -2, 1, BAD}, {0, 0, 61, BAD},
            {0, 0, -1, -14}, {0, 3, -1, BAD}, {4, -1, 0, BAD}};
        for (int[] r : refused) due(43, "refused", x.sheet(r[0], r[1], r[2]), r[3]);
        due(44, "byte", x.write(0, 59, 0x1ff80), 1);
        due(45, "its lowest bits", x.item(0, 59), -128);
        due(44, "short", x.write(1, 1, 0x18001), 1);
        due(45, "its lowest bits", x.item(1, 1), -32767);
        due(45, "still 0", x.item(1, 0), 0);
        due(44, "outside", x.write(3, 0, 1), -12);
        due(43, "ints", x.sheet(3, 2, 1), 1);
        due(44, "int", x.write(3, 0, LOW), 1);
        due(45, "int", x.item(3, 0), LOW);
        due(43, "missing", x.sheet(3, -1, 99), 1);
        due(44, "missing", x.write(3, 0, 1), -11);
        due(45, "missing", x.item(3, 0), -11);
        due(44, "bad", x.write(4, 0, 1), BAD);
        due(45, "bad", x.item(-1, 0), BAD);
        for (int i : new int[] {-1, 60, LOW, HIGH}) {
            due(44, "outside", x.write(0, i, 1), -12);
            due(45, "outside", x.item(0, i), -12);
        }
        x.sheet(0, 0, 60);
        due(43, "all 0 again", x.item(0, 59), 0);
    }

    private static void copies() {
        LinesTouched x = new LinesTouched();
        row(x, 0, 1, 1, 2, 3, 4);
        row(x, 1, 1, 0, 0);
        row(x, 2, 2, 0);
        due(46, "further on", x.copy(0, 0, 0, 1, 3), 3);
        int[] shifted = {1, 1, 2, 3};
        for (int i = 0; i < 4; i++) due(46, "as they were", x.item(0, i), shifted[i]);
        due(46, "back", x.copy(0, 2, 1, 0, 2), 2);
        due(46, "first", x.item(1, 0), 2);
        due(46, "second", x.item(1, 1), 3);
        due(46, "nothing, at the end", x.copy(0, 4, 1, 2, 0), 0);
        int[][] refused = {{4, 0, 0, 0, 0, BAD}, {0, 0, -1, 0, 0, BAD}, {0, 0, 3, 0, 0, -11}, {3, 0, 0, 0, 0, -11},
            {0, 0, 2, 0, 1, -13}, {2, 0, 0, 0, -1, -13}, {0, 0, 1, 0, -1, -12}, {0, 0, 1, 0, 3, -12},
            {0, 3, 1, 0, 2, -12}, {0, -1, 1, 0, 1, -12}, {0, 0, 1, -1, 1, -12}, {0, 5, 1, 0, 0, -12},
            {0, HIGH, 1, 0, 1, -12}, {0, 1, 1, 1, HIGH, -12}, {4, 0, 3, 0, 0, BAD}, {3, 0, 2, 9, 9, -11}};
        for (int[] r : refused) due(46, "refused", x.copy(r[0], r[1], r[2], r[3], r[4]), r[5]);
    }

    private static void loads() {
        LinesTouched x = net(3);
        row(x, 0, 0, 9, 2, 0, 4);
        due(47, "ends at 0", x.load(0), 2);
        due(47, "weight", x.pointOf(0, 1), 9);
        due(47, "weight", x.pointOf(1, 1), 2);
        due(47, "weight stays", x.pointOf(2, 1), 1);
        row(x, 0, 2, 1, 2, 3, 4);
        due(47, "ends with the points", x.load(0), 3);
        row(x, 0, 2, 10);
        due(47, "ends at 10", x.load(0), 0);
        due(47, "missing", x.load(1), -11);
        due(47, "bad", x.load(4), BAD);
        due(47, "bad", x.load(-1), BAD);
    }

    private static void judges() {
        LinesTouched x = path3();
        int[][] rows = {{0, 2, 0}, {1, 1, 1}, {0, 2}, {}, {0, 1, 0}, {2, 0, 1}, {0, 2, 0, 0}, {3, 2, 0}, {0, -1, 0},
            {2, 0, 2}};
        int[] answers = {0, 100, 100, 100, 2, 3, 4, 1, 2, 100};
        for (int i = 0; i < rows.length; i++) {
            row(x, 0, i % 3, rows[i]);
            due(48, "row " + i, x.judge(0), answers[i]);
        }
        LinesTouched one = net(2, 0, 1);
        for (int first = 0; first < 3; first++) {
            row(one, 0, 0, first, 2 - first);
            due(48, "all of them are least", one.judge(0), 0);
        }
        due(48, "missing", x.judge(1), -11);
        due(48, "bad", x.judge(4), BAD);
        due(48, "bad", x.judge(-1), BAD);
    }

    private static void shelvesHold() {
        LinesTouched x = new LinesTouched();
        for (int kind = 0; kind < 6; kind++) x.point(kind, 1);
        String[] fits = {"0", "01", "02", "013", "024", "0135"};
        for (int p = 0; p < 6; p++) {
            due(49, "point", x.shelf(0, 0, p), 1);
            for (int as = 0; as < 6; as++)
                due(50, p + " as " + as, x.taken(0, as), fits[p].indexOf('0' + as) >= 0 ? p : -13);
            for (int as = 10; as < 13; as++) due(50, p + " as a row", x.taken(0, as), -13);
        }
        x.change(5, 0, 2);
        due(50, "of another kind now", x.taken(0, 2), 5);
        x.image();
        x.deal(5, 5);
        due(50, "no such point", x.taken(0, 0), -11);
        x.back();
        due(50, "there again", x.taken(0, 0), 5);
        row(x, 2, 1, 1, 2, 3);
        due(49, "row", x.shelf(1, 1, 2), 1);
        x.sheet(2, 0, 7);
        due(50, "as it was then", x.taken(1, 11), 3);
        due(50, "of another sort", x.taken(1, 10), -13);
        due(50, "no point", x.taken(1, 0), -13);
        due(49, "missing row", x.shelf(1, 1, 0), 1);
        due(50, "nothing", x.taken(1, 11), -11);
        due(49, "nothing", x.shelf(0, 2, 99), 1);
        due(50, "nothing", x.taken(0, 0), -11);
        int[][] bads = {{4, 2, 0}, {-1, 2, 0}, {0, 3, 0}, {0, -1, 0}, {0, 0, 6}, {0, 0, -1}, {0, 1, 4}, {0, 1, -1}};
        for (int[] bad : bads) due(49, "bad", x.shelf(bad[0], bad[1], bad[2]), BAD);
        for (int[] bad : new int[][] {{4, 0}, {-1, 0}, {0, 6}, {0, 9}, {0, 13}, {0, -1}, {3, 7}})
            due(50, "bad", x.taken(bad[0], bad[1]), BAD);
    }

    private static void images() {
        LinesTouched x = path3();
        x.seed(5);
        due(51, "points", x.image(), 3);
        x.deal(7, 5);
        x.feed(40, 1);
        x.sheet(0, 0, 1);
        for (int i = 0; i < 2; i++) {
            due(52, "points", x.back(), 3);
            due(52, "z", x.count(4), 5);
            due(52, "lines", x.pointOf(1, 3), 5);
            due(52, "kind", x.pointOf(0, 0), 0);
            due(52, "weight", x.pointOf(2, 1), 1);
            x.change(0, 0, 5);
            x.change(2, 1, 9);
            x.line(0, 1, 0);
            x.point(1, 1);
            x.seed(6);
        }
        due(52, "the tape isn't kept", x.count(3), 1);
        due(52, "sheets aren't kept", x.item(0, 0), 0);
        due(51, "another one", x.image(), 4);
        due(52, "that one", x.back(), 4);
        due(52, "none", new LinesTouched().back(), STATE);
        due(51, "of no points", new LinesTouched().image(), 0);
    }

    public static void main(String[] args) {
        newObject();
        points();
        lines();
        pointsTold();
        changes();
        counts();
        coversAsked();
        coversFound();
        halvesFound();
        crownsFound();
        kernels();
        packings();
        searches();
        proofs();
        oneMoreOneLess();
        tapes();
        texts();
        trees();
        treesTold();
        draws();
        rows();
        copies();
        loads();
        judges();
        shelvesHold();
        images();
        System.out.println(wrong == 0 ? "promises: all answers are as due" : "promises: " + wrong + " are not as due");
        if (wrong != 0) System.exit(1);
    }
}
