/** Promises 1 to 13, sentence by sentence where one names an edge: the net, and its covers. */
public final class EdgesOfNetTest {
    private static final int NONE = Check.NONE, BAD = Check.BAD, STATE = Check.STATE, FULL = Check.FULL;
    private static final int LOW = Check.LOW, HIGH = Check.HIGH;
    private static final Check CHECK = new Check("edges of the net");

    private static void newObject() {
        LinesTouched x = new LinesTouched();
        CHECK.says(1, "no POINTS");
        CHECK.dues(x::count, 0, 0, 0);
        CHECK.due(x.pointOf(0, 0), BAD);
        CHECK.due(x.point(0, 1), 0);
        CHECK.says(1, "no TREE");
        CHECK.due(x.count(5), 0);
        CHECK.dues(x::tree, NONE, NONE, NONE, NONE, NONE, NONE);
        CHECK.dues(w -> x.treeOf(0, w), BAD, BAD, BAD, BAD, BAD, BAD);
        CHECK.due(x.plant(), NONE);
        CHECK.says(1, "no IMAGE");
        CHECK.due(x.back(), STATE);
        CHECK.says(1, "THE TAPE is empty");
        CHECK.due(x.count(3), 0);
        CHECK.due(x.wipe(), 0);
        CHECK.due(x.text(), -100);
        CHECK.says(1, "z is 1 at first");
        CHECK.due(x.count(4), 1);
        CHECK.due(x.seed(1), 1);
        CHECK.says(1, "SHEETS are missing at first");
        CHECK.dues(s -> x.item(s, 0), -11, -11, -11, -11);
        CHECK.says(1, "SHELVES hold nothing at first");
        for (int as : new int[] {0, 5, 10, 12}) {
            CHECK.dues(h -> x.taken(h, as), -11, -11, -11, -11);
        }
        CHECK.says(1, "what another object did is not seen");
        CHECK.due(new LinesTouched().count(0), 0);
    }

    private static void points() {
        LinesTouched x = new LinesTouched();
        CHECK.says(2, "a KIND is 0 to 5");
        CHECK.all(BAD, kind -> x.point(kind, 1), -1, 6, LOW, HIGH);
        CHECK.dues(kind -> x.point(kind, 1), 0, 1, 2, 3, 4, 5);
        CHECK.says(2, "a WEIGHT is 1 to 9");
        CHECK.all(BAD, weight -> x.point(0, weight), 0, 10, -1, LOW, HIGH);
        CHECK.due(x.point(0, 1), 6);
        CHECK.due(x.point(0, 9), 7);
        CHECK.due(x.pointOf(7, 1), 9);
        CHECK.says(2, "12 at most");
        CHECK.dues(i -> x.point(0, 1), 8, 9, 10, 11, FULL, FULL);
        CHECK.due(x.count(0), 12);
        CHECK.says(2, "BAD is named ahead of FULL");
        CHECK.due(x.point(6, 1), BAD);
        CHECK.due(x.point(0, 0), BAD);
        CHECK.says(2, "full by deal, by plant, by back");
        LinesTouched y = new LinesTouched();
        y.deal(12, 5);
        CHECK.due(y.point(0, 1), FULL);
        y.image();
        y.deal(11, 5);
        CHECK.due(y.point(0, 1), 11);
        y.deal(0, 0);
        y.back();
        CHECK.due(y.point(0, 1), FULL);
        Check.read(y, Check.bush(11));
        y.plant();
        CHECK.due(y.point(0, 1), FULL);
        CHECK.says(2, "a new POINT has no LINES, though its number had some");
        y.deal(12, 10);
        y.deal(0, 0);
        CHECK.due(y.point(3, 4), 0);
        CHECK.due(y.point(5, 6), 1);
        CHECK.due(y.count(1), 0);
        CHECK.dues(w -> y.pointOf(0, w), 3, 4, 2, 0, 0);
    }

    private static void lines() {
        LinesTouched x = Check.net(12);
        CHECK.says(3, "what there was: 0 at first, then 1, in either order of the two");
        CHECK.due(x.line(11, 10, 1), 0);
        CHECK.due(x.line(10, 11, 1), 1);
        CHECK.says(3, "one LINE at most between two");
        CHECK.due(x.count(1), 1);
        CHECK.due(x.pointOf(10, 4), 1);
        CHECK.says(3, "none: what there was, and none behind it");
        CHECK.due(x.line(10, 11, 0), 1);
        CHECK.due(x.line(11, 10, 0), 0);
        CHECK.due(x.count(1), 0);
        CHECK.due(x.pointOf(11, 3), 0);
        CHECK.says(3, "BAD: one and the same POINT");
        CHECK.all(BAD, p -> x.line(p, p, 1), 0, 5, 11);
        CHECK.all(BAD, p -> x.line(p, p, 0), 0, 11);
        CHECK.says(3, "BAD: no POINT");
        CHECK.all(BAD, p -> x.line(0, p, 1), -1, 12, LOW, HIGH);
        CHECK.all(BAD, p -> x.line(p, 0, 1), -1, 12, LOW, HIGH);
        LinesTouched two = Check.net(2);
        CHECK.due(two.line(0, 2, 1), BAD);
        CHECK.due(two.line(2, 1, 0), BAD);
        CHECK.says(3, "BAD: on is neither 1 nor 0");
        CHECK.all(BAD, on -> x.line(0, 1, on), -1, 2, LOW, HIGH);
        CHECK.due(x.count(1), 0);
        CHECK.says(3, "all 66");
        CHECK.due(Check.whole(12).count(1), 66);
    }

    private static void pointsTold() {
        LinesTouched x = Check.net(12, 0, 11, 0, 1);
        CHECK.says(4, "what is 0 to 4");
        x.change(0, 0, 1);
        x.change(0, 1, 7);
        CHECK.dues(w -> x.pointOf(0, w), 1, 7, 9, 2050, 2);
        CHECK.all(BAD, w -> x.pointOf(0, w), -1, 5, LOW, HIGH);
        CHECK.says(4, "BAD: no POINT");
        CHECK.all(BAD, p -> x.pointOf(p, 0), -1, 12, LOW, HIGH);
        CHECK.due(new LinesTouched().pointOf(0, 3), BAD);
        CHECK.due(Check.net(2).pointOf(2, 0), BAD);
        CHECK.says(4, "a POINT without LINES, one with all");
        CHECK.due(x.pointOf(5, 3), 0);
        CHECK.due(x.pointOf(5, 4), 0);
        CHECK.due(Check.whole(12).pointOf(11, 3), 2047);
        CHECK.due(Check.whole(12).pointOf(11, 4), 11);
    }

    /** The COST of a POINT with a number of 11 others NEXT to it. */
    private static int cost(int number, int kind, int weight, int lines) {
        LinesTouched x = Check.net(12);
        x.change(number, 0, kind);
        x.change(number, 1, weight);
        int left = lines;
        for (int p = 0; p < 12 && left > 0; p++) {
            if (p == number) continue;
            x.line(number, p, 1);
            left--;
        }
        return x.pointOf(number, 2);
    }

    private static void costs() {
        CHECK.says(4, "COST of a POINT: its WEIGHT, whatever LINES it has");
        CHECK.due(cost(3, 0, 1, 0), 1);
        CHECK.due(cost(3, 0, 9, 11), 9);
        CHECK.says(4, "COST of a TOLL: 1 more for each LINE");
        CHECK.due(cost(3, 1, 1, 0), 1);
        CHECK.due(cost(3, 1, 9, 1), 10);
        CHECK.due(cost(3, 1, 9, 11), 20);
        CHECK.says(4, "COST of a CLUB: twice");
        CHECK.due(cost(3, 2, 1, 11), 2);
        CHECK.due(cost(3, 2, 9, 0), 18);
        CHECK.says(4, "COST of a KEEPER: 2 less, 1 at least");
        CHECK.due(cost(3, 3, 1, 0), 1);
        CHECK.due(cost(3, 3, 2, 0), 1);
        CHECK.due(cost(3, 3, 1, 1), 1);
        CHECK.due(cost(3, 3, 3, 0), 1);
        CHECK.due(cost(3, 3, 3, 1), 2);
        CHECK.due(cost(3, 3, 9, 11), 18);
        CHECK.says(4, "COST of a GUILD: its number is added, 0 as well as 11");
        CHECK.due(cost(0, 4, 1, 3), 2);
        CHECK.due(cost(1, 4, 1, 3), 3);
        CHECK.due(cost(11, 4, 9, 0), 29);
        CHECK.says(4, "COST of a WARDEN: half is cut");
        CHECK.due(cost(3, 5, 1, 0), 1);
        CHECK.due(cost(3, 5, 3, 1), 2);
        CHECK.due(cost(3, 5, 3, 2), 2);
        CHECK.due(cost(3, 5, 4, 2), 3);
        CHECK.due(cost(3, 5, 9, 11), 10);
    }

    private static void changes() {
        LinesTouched x = Check.net(3, 0, 2);
        CHECK.says(5, "a KIND becomes 0 to 5: what it was");
        CHECK.due(x.change(2, 0, 5), 0);
        CHECK.due(x.change(2, 0, 0), 5);
        CHECK.all(BAD, v -> x.change(2, 0, v), -1, 6, 9, LOW, HIGH);
        CHECK.due(x.pointOf(2, 0), 0);
        CHECK.says(5, "a WEIGHT becomes 1 to 9: what it was");
        CHECK.due(x.change(2, 1, 9), 1);
        CHECK.due(x.change(2, 1, 1), 9);
        CHECK.all(BAD, v -> x.change(2, 1, v), 0, 10, -1, LOW, HIGH);
        CHECK.due(x.pointOf(2, 1), 1);
        CHECK.says(5, "BAD: what is neither 0 nor 1");
        CHECK.all(BAD, w -> x.change(2, w, 1), -1, 2, LOW, HIGH);
        CHECK.says(5, "BAD: no POINT");
        CHECK.all(BAD, p -> x.change(p, 0, 1), -1, 3, 12, LOW, HIGH);
        CHECK.all(BAD, p -> x.change(p, 1, 1), -1, 3, 12, LOW, HIGH);
        CHECK.says(5, "LINES and the other one of KIND and WEIGHT stay");
        x.change(2, 0, 4);
        x.change(2, 1, 8);
        CHECK.dues(w -> x.pointOf(2, w), 4, 8, 18, 1, 1);
        CHECK.dues(w -> x.pointOf(0, w), 0, 1, 1, 4, 1);
    }

    private static void counts() {
        LinesTouched x = Check.net(12, 0, 1, 3, 11);
        CHECK.says(6, "what is 0 to 5");
        x.feed(7, 4);
        x.seed(-2);
        Check.read(x, Check.bush(59));
        x.feed(7, 3);
        CHECK.dues(x::count, 12, 2, 8, 3, -2, 60);
        CHECK.all(BAD, x::count, -1, 6, LOW, HIGH);
        CHECK.says(6, "z may be any number");
        for (int z : new int[] {0, -1, LOW, HIGH}) {
            x.seed(z);
            CHECK.due(x.count(4), z);
        }
        CHECK.says(6, "POINTS without LINES: all, none");
        CHECK.due(Check.net(12).count(2), 12);
        CHECK.due(Check.star(12).count(2), 0);
    }

    private static void coversAsked() {
        CHECK.says(7, "1 a COVER, 2 a BARE one, else 0");
        CHECK.dues(Check.path(3)::isCover, 0, 0, 2, 1, 0, 2, 1, 1);
        CHECK.says(7, "both ends of a LINE may be in it, but then not all is needed");
        CHECK.dues(Check.path(2)::isCover, 0, 2, 2, 1);
        CHECK.says(7, "without LINES none is a BARE COVER");
        CHECK.due(new LinesTouched().isCover(0), 2);
        CHECK.dues(Check.net(2)::isCover, 2, 1, 1, 1);
        CHECK.says(7, "a POINT without LINES can be left out");
        CHECK.dues(Check.net(3, 0, 1)::isCover, 0, 2, 2, 1, 0, 1, 1, 1);
        CHECK.says(7, "BAD: it has one that is no POINT");
        CHECK.due(new LinesTouched().isCover(1), BAD);
        CHECK.all(BAD, Check.path(3)::isCover, 8, 15, 4096, -1, -8, LOW, HIGH);
        CHECK.due(Check.whole(12).isCover(4095), 1);
        CHECK.due(Check.whole(12).isCover(2047), 2);
        CHECK.all(BAD, Check.whole(12)::isCover, 4096, 8191, -1, LOW, LOW + 1, HIGH);
        CHECK.says(8, "of none, of all");
        LinesTouched x = Check.star(12);
        x.change(11, 0, 4);
        CHECK.due(x.costOf(0), 0);
        CHECK.due(x.costOf(1 << 11), 13);
        CHECK.due(x.costOf(4095), 24);
        CHECK.due(new LinesTouched().costOf(0), 0);
        CHECK.says(8, "BAD: it has one that is no POINT");
        CHECK.due(new LinesTouched().costOf(1), BAD);
        CHECK.all(BAD, Check.path(3)::costOf, 8, 15, 4096, -1, -8, LOW, HIGH);
        CHECK.all(BAD, x::costOf, 4096, 8191, -1, LOW, LOW + 1, HIGH);
    }

    private static void fewest() {
        CHECK.says(9, "what is 0 to 4");
        CHECK.dues(Check.path(3)::fewest, 1, 2, 1, 2, 5);
        CHECK.all(BAD, Check.path(3)::fewest, -1, 5, LOW, HIGH);
        CHECK.says(9, "without POINTS, without LINES none is enough");
        CHECK.dues(new LinesTouched()::fewest, 0, 0, 1, 0, 0);
        CHECK.dues(Check.net(12)::fewest, 0, 0, 1, 0, 4095);
        CHECK.says(9, "of several the least number");
        CHECK.dues(Check.path(4)::fewest, 2, 5, 3, 0, 0);
        CHECK.says(9, "all LINES there can be");
        CHECK.dues(Check.whole(12)::fewest, 11, 2047, 12, 0, 0);
        CHECK.says(9, "in all, in none");
        CHECK.dues(Check.star(12)::fewest, 1, 1, 1, 1, 4094);
        CHECK.dues(Check.net(5, 0, 1, 1, 2, 3, 4)::fewest, 2, 10, 2, 2, 5);
    }

    private static void dear() {
        CHECK.says(10, "what is 0 to 2");
        CHECK.dues(Check.path(3)::dear, 1, 2, 1);
        CHECK.all(BAD, Check.path(3)::dear, -1, 3, LOW, HIGH);
        CHECK.says(10, "without POINTS, without LINES nothing is paid");
        CHECK.dues(new LinesTouched()::dear, 0, 0, 1);
        CHECK.dues(Check.net(12)::dear, 0, 0, 1);
        CHECK.says(10, "of several the least number");
        CHECK.dues(Check.path(2)::dear, 1, 1, 2);
        CHECK.says(10, "more POINTS that cost less, as much, more");
        LinesTouched x = Check.star(4);
        x.change(0, 1, 4);
        CHECK.dues(x::dear, 3, 14, 1);
        x.change(0, 1, 3);
        CHECK.dues(x::dear, 3, 1, 2);
        x.change(0, 1, 2);
        CHECK.dues(x::dear, 2, 1, 1);
        CHECK.says(10, "COST, not WEIGHT");
        x.change(0, 0, 1);
        CHECK.dues(x::dear, 3, 14, 1);
        CHECK.says(10, "the dearest there can be");
        LinesTouched y = Check.whole(12);
        for (int p = 0; p < 12; p++) {
            y.change(p, 0, 4);
            y.change(p, 1, 9);
        }
        CHECK.dues(y::dear, 12 * 18 + 66 - 29, 2047, 1);
    }

    private static void sizes() {
        CHECK.says(11, "n is 0 to 12");
        CHECK.dues(Check.path(3)::sized, 0, 1, 3, 1);
        CHECK.all(BAD, Check.path(3)::sized, -1, 13, LOW, HIGH);
        CHECK.says(11, "more than there are POINTS: there is none");
        CHECK.all(0, Check.path(3)::sized, 4, 11, 12);
        CHECK.all(0, new LinesTouched()::sized, 1, 12);
        CHECK.says(11, "of 0 POINTS there is one just without LINES");
        CHECK.due(new LinesTouched().sized(0), 1);
        CHECK.due(Check.net(12).sized(0), 1);
        CHECK.due(Check.path(12).sized(0), 0);
        CHECK.says(11, "of all 12");
        CHECK.due(Check.whole(12).sized(12), 1);
        CHECK.due(Check.whole(12).sized(11), 12);
        CHECK.due(Check.whole(12).sized(10), 0);
    }

    private static void bare() {
        CHECK.says(12, "what is 0 to 2");
        CHECK.dues(Check.path(3)::bare, 2, 2, 5);
        CHECK.all(BAD, Check.path(3)::bare, -1, 3, LOW, HIGH);
        CHECK.says(12, "without POINTS, without LINES it is that of none");
        CHECK.dues(new LinesTouched()::bare, 1, 0, 0);
        CHECK.dues(Check.net(12)::bare, 1, 0, 0);
        LinesTouched x = Check.star(4);
        CHECK.dues(x::bare, 2, 3, 14);
        for (int p = 1; p < 4; p++) x.line(0, p, 0);
        CHECK.dues(x::bare, 1, 0, 0);
        CHECK.says(12, "of several with so many the least number");
        CHECK.dues(Check.path(4)::bare, 3, 2, 5);
        CHECK.dues(Check.whole(12)::bare, 12, 11, 2047);
        CHECK.says(12, "the most POINTS, not the fewest");
        CHECK.dues(Check.star(12)::bare, 2, 11, 4094);
    }

    private static void shares() {
        CHECK.says(13, "part is 0 or 1");
        CHECK.dues(Check.path(3)::share, 5, 8);
        CHECK.all(BAD, Check.path(3)::share, -1, 2, LOW, HIGH);
        CHECK.says(13, "all of them: 1 and 1");
        CHECK.dues(new LinesTouched()::share, 1, 1);
        CHECK.dues(Check.net(1)::share, 1, 1);
        CHECK.dues(Check.net(12)::share, 1, 1);
        CHECK.says(13, "in lowest terms");
        CHECK.dues(Check.triangles(1)::share, 1, 2);
        CHECK.dues(Check.net(12, 0, 1)::share, 3, 4);
        CHECK.says(13, "in lowest terms already");
        CHECK.dues(Check.whole(12)::share, 13, 4096);
        CHECK.dues(Check.star(12)::share, 2049, 4096);
    }

    public static void main(String[] args) {
        newObject();
        points();
        lines();
        pointsTold();
        costs();
        changes();
        counts();
        coversAsked();
        fewest();
        dear();
        sizes();
        bare();
        shares();
        CHECK.end(1, 13);
    }
}
