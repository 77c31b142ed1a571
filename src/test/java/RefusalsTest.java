import java.util.ArrayList;
import java.util.List;
import java.util.function.Supplier;
import java.util.function.ToLongFunction;

/** A refused call changes nothing, and nothing is changed by asking: told by twins, of which one is called. */
public final class RefusalsTest {
    private static final int NONE = Check.NONE, BAD = Check.BAD, STATE = Check.STATE, FULL = Check.FULL;
    private static final int LOW = Check.LOW, HIGH = Check.HIGH;
    private static int wrong = 0;
    private static int calls = 0;

    private static LinesTouched empty() {
        return new LinesTouched();
    }

    /** Something of each sort is there, and room for more. */
    private static LinesTouched half() {
        LinesTouched x = new LinesTouched();
        x.seed(31);
        x.deal(5, 6);
        x.image();
        x.deal(7, 5);
        x.seed(-77);
        Check.read(x, "(toll 5 (club 2) (guild (warden 9)) ())");
        Check.feedAll(x, "(keeper 3 (8))");
        Check.row(x, 0, 0, 1, -1, 2);
        Check.row(x, 1, 1, 3, 300, 0, 6);
        Check.row(x, 2, 2, 2, LOW, HIGH, 0, 5);
        x.shelf(0, 0, 6);
        x.shelf(1, 1, 1);
        x.shelf(3, 0, 2);
        return x;
    }

    /** No room is left. */
    private static LinesTouched full() {
        LinesTouched x = new LinesTouched();
        x.deal(9, 3);
        x.image();
        x.deal(12, 5);
        Check.read(x, Check.bush(59));
        x.feed('(' << 24 | '7' << 16 | '(' << 8 | ')', 4);
        x.feed(')', 1);
        for (int i = 0; i < 48; i++) x.feed(0x20202020, 4);
        x.feed(0x202020, 3);
        for (int s = 0; s < 4; s++) {
            x.sheet(s, s % 3, 60);
            x.write(s, 0, 9);
            x.write(s, 59, 5);
            x.shelf(s, s % 2, s);
        }
        return x;
    }

    /** Lines without a crown, and a tree that can't be planted. */
    private static LinesTouched triangle() {
        LinesTouched x = Check.triangles(1);
        Check.read(x, Check.bush(12));
        return x;
    }

    private static void tellNet(LinesTouched x, List<Long> out) {
        for (int what = 0; what < 6; what++) out.add((long) x.count(what));
        for (int p = 0; p < 12; p++) {
            out.add((long) x.pointOf(p, 0));
            out.add((long) x.pointOf(p, 1));
            out.add((long) x.pointOf(p, 3));
        }
    }

    private static void tellTree(LinesTouched x, List<Long> out) {
        for (int v = 0; v < x.count(5) && v < 15; v++)
            for (int what = 0; what < 3; what++) out.add((long) x.treeOf(v, what));
    }

    /** All that can be told of an object, the tape and the image last, for that changes it. */
    private static List<Long> tellAll(LinesTouched x) {
        List<Long> out = new ArrayList<>();
        tellNet(x, out);
        tellTree(x, out);
        for (int s = 0; s < 4; s++)
            for (int i : new int[] {0, 1, 2, 3, 4, 5, 59, 60}) out.add((long) x.item(s, i));
        for (int h = 0; h < 4; h++)
            for (int as : new int[] {0, 1, 2, 3, 4, 5, 10, 11, 12}) out.add((long) x.taken(h, as));
        out.add((long) x.text());
        tellTree(x, out);
        out.add((long) x.back());
        tellNet(x, out);
        return out;
    }

    private static void complain(String what) {
        wrong++;
        System.out.println("refusals: " + what);
    }

    private static void unchanged(String call, Supplier<LinesTouched> state, ToLongFunction<LinesTouched> does) {
        LinesTouched x = state.get();
        does.applyAsLong(x);
        calls++;
        if (!tellAll(x).equals(tellAll(state.get()))) complain(call + " changed something");
    }

    private static void refused(String call, int want, Supplier<LinesTouched> state, ToLongFunction<LinesTouched> does) {
        long got = does.applyAsLong(state.get());
        if (got != want) complain(call + " answered " + got + ", due is " + want);
        unchanged(call, state, does);
    }

    private static final List<Supplier<LinesTouched>> STATES =
            List.of(RefusalsTest::empty, RefusalsTest::half, RefusalsTest::full, RefusalsTest::triangle);

    /** BAD in any state. */
    private static void bad(String call, ToLongFunction<LinesTouched> does) {
        for (int i = 0; i < STATES.size(); i++) refused(call + " in state " + i, BAD, STATES.get(i), does);
    }

    private static void badInNets() {
        for (int v : new int[] {-1, 12, LOW, HIGH}) {
            bad("point's kind " + v, x -> x.point(v, 1));
            bad("line " + v, x -> x.line(v, 0, 1));
            bad("line to " + v, x -> x.line(0, v, 1));
            bad("line away " + v, x -> x.line(0, v, 0));
            bad("line on " + v, x -> x.line(0, 1, v));
            bad("line to itself " + v, x -> x.line(v & 3, v & 3, 1));
            bad("change of " + v, x -> x.change(v, 1, 2));
            bad("change to kind " + v, x -> x.change(0, 0, v));
            bad("change to weight " + v, x -> x.change(0, 1, v));
            bad("change what " + v, x -> x.change(0, v, 2));
            bad("feed " + v, x -> x.feed(40, v));
        }
        for (int v : new int[] {0, 10, -1, LOW, HIGH}) {
            bad("point's weight " + v, x -> x.point(0, v));
            bad("feed's n", x -> x.feed(40, v == 10 ? 5 : v));
        }
        for (int v : new int[] {-1, 13, LOW, HIGH}) {
            bad("deal " + v, x -> x.deal(v, 5));
            bad("deal's odds " + v, x -> x.deal(5, v));
            bad("times n " + v, x -> x.times(v == 13 ? 21 : v, 5, 5, 5));
            bad("times points " + v, x -> x.times(5, v, 5, 5));
            bad("times odds " + v, x -> x.times(5, 5, v, 5));
            bad("times k " + v, x -> x.times(5, 5, 5, v));
            bad("prove k " + v, x -> x.prove(0, v));
            bad("proves k " + v, x -> x.proves(0, v));
        }
    }

    private static void badInSheets() {
        for (int v : new int[] {-1, 4, LOW, HIGH}) {
            bad("sheet " + v, x -> x.sheet(v, 0, 1));
            bad("sheet missing " + v, x -> x.sheet(v, -1, 1));
            bad("sheet's sort " + v, x -> x.sheet(0, v == -1 ? -2 : v, 1));
            bad("sheet's sort ahead of -14 " + v, x -> x.sheet(0, v == -1 ? -2 : v, -1));
            bad("write " + v, x -> x.write(v, 0, 1));
            bad("copy from " + v, x -> x.copy(v, 0, 0, 0, 1));
            bad("copy to " + v, x -> x.copy(0, 0, v, 0, 1));
            bad("load " + v, x -> x.load(v));
            bad("prove " + v, x -> x.prove(v, 1));
            bad("shelf " + v, x -> x.shelf(v, 2, 0));
            bad("shelf's row " + v, x -> x.shelf(0, 1, v));
            bad("shelf's what " + v, x -> x.shelf(0, v, 0));
            bad("shelf's point", x -> x.shelf(0, 0, v == 4 ? 12 : v));
        }
        bad("sheet of 61", x -> x.sheet(0, 0, 61));
        bad("sheet of very many", x -> x.sheet(0, 2, HIGH));
    }

    private static void otherRefusals() {
        refused("point", FULL, RefusalsTest::full, x -> x.point(0, 1));
        for (int n = 1; n <= 4; n++) {
            int bytes = n;
            refused("feed " + n, FULL, RefusalsTest::full, x -> x.feed(0x28282828, bytes));
        }
        refused("back", STATE, RefusalsTest::empty, LinesTouched::back);
        refused("plant", NONE, RefusalsTest::empty, LinesTouched::plant);
        refused("plant of 60", STATE, RefusalsTest::full, LinesTouched::plant);
        refused("plant of 13", STATE, RefusalsTest::triangle, LinesTouched::plant);
        for (int k = 11; k <= 12; k++) {
            int many = k;
            for (int i = 0; i < STATES.size(); i++)
                refused("prove " + i, NONE, STATES.get(i), x -> x.prove(0, many));
        }
        refused("prove for just enough", NONE, RefusalsTest::triangle, x -> x.prove(1, 2));
        for (int i = 0; i < STATES.size(); i++) {
            refused("sheet below 0", -14, STATES.get(i), x -> x.sheet(0, 0, -1));
            refused("sheet far below 0", -14, STATES.get(i), x -> x.sheet(3, 2, LOW));
        }
        refused("write", -11, RefusalsTest::half, x -> x.write(3, 0, 1));
        refused("write", -12, RefusalsTest::half, x -> x.write(0, 3, 1));
        refused("write", -12, RefusalsTest::half, x -> x.write(0, -1, 1));
        refused("write", -12, RefusalsTest::full, x -> x.write(0, 60, 1));
        refused("copy", -11, RefusalsTest::half, x -> x.copy(0, 0, 3, 0, 1));
        refused("copy", -11, RefusalsTest::half, x -> x.copy(3, 0, 0, 0, 1));
        refused("copy", -13, RefusalsTest::half, x -> x.copy(0, 0, 1, 0, 1));
        refused("copy", -12, RefusalsTest::full, x -> x.copy(0, 1, 3, 0, 60));
        refused("copy", -12, RefusalsTest::full, x -> x.copy(0, 0, 3, 1, 60));
        refused("copy", -12, RefusalsTest::full, x -> x.copy(0, 0, 3, 0, -1));
        refused("load", -11, RefusalsTest::half, x -> x.load(3));
    }

    /** Each call that asks, with numbers that are taken and others. */
    private static void asking() {
        for (int i = 0; i < STATES.size(); i++) {
            Supplier<LinesTouched> state = STATES.get(i);
            for (int v = -1; v <= 6; v++) {
                int a = v;
                unchanged("asking for one number", state, x -> x.count(a) + x.isCover(a) + x.costOf(a) + x.fewest(a)
                        + x.dear(a) + x.sized(a) + x.bare(a) + x.share(a) + x.halves(a) + x.half(a) + x.mayHave(a)
                        + x.mate(a) + x.isCrown(a) + x.crowns(a) + x.pack(a) + x.packs(a) + x.without(a) + x.cut(a)
                        + x.joins(a) + x.pays(a) + x.tree(a) + x.judge(a) + x.persists());
                for (int w = 0; w <= 5; w++) {
                    int b = w;
                    unchanged("asking for two numbers", state, x -> x.pointOf(a, b) + x.kernel(a, b)
                            + x.search(a, b) + x.proves(a, b) + x.paid(a, b) + x.treeOf(a, b) + x.item(a, b)
                            + x.taken(a, b) + x.taken(a, b + 8) + x.round(a, b, 1) + x.node(a, b, 1)
                            + x.times(a, b, 5, 3));
                }
            }
        }
    }

    /** The answers to the same questions, asked once more. */
    private static void askingTwice() {
        for (Supplier<LinesTouched> state : STATES) {
            LinesTouched x = state.get();
            List<Long> first = answers(x);
            calls++;
            if (!answers(x).equals(first)) complain("asked once more, something is answered otherwise");
        }
    }

    /** What was asked of another net leaves nothing behind: a fresh object answers alike. */
    private static void askingOfAnother() {
        int[][] deals = {{12, 5}, {0, 0}, {12, 10}, {1, 0}, {6, 8}, {12, 0}, {7, 5}, {2, 10}, {9, 2}, {3, 10}};
        LinesTouched x = new LinesTouched();
        for (int i = 0; i < deals.length; i++) {
            LinesTouched fresh = new LinesTouched();
            fresh.seed(x.count(4));
            x.deal(deals[i][0], deals[i][1]);
            fresh.deal(deals[i][0], deals[i][1]);
            calls++;
            if (!answers(x).equals(answers(fresh))) complain("what was asked of another net is seen");
            if (x.count(4) != fresh.count(4)) complain("z is unlike");
            // an object is good for 512 calls
            if (i % 2 == 1) x = fresh;
        }
    }

    private static List<Long> answers(LinesTouched x) {
        List<Long> out = new ArrayList<>();
        for (int a = 0; a <= 4; a++) {
            long[] told = {x.fewest(a), x.dear(a), x.sized(a), x.bare(a), x.share(a), x.halves(a), x.half(a),
                x.mayHave(a), x.mate(a), x.crowns(a), x.pack(a), x.cut(a), x.joins(a), x.pays(a), x.tree(a),
                x.kernel(3, a), x.search(3, a), x.node(4, 1, a), x.round(4, 0, a), x.without(a), x.paid(0, a),
                x.times(5, 7, 5, a), x.persists(), x.judge(a), x.packs(a), x.proves(a, 2)};
            for (long t : told) out.add(t);
        }
        return out;
    }

    public static void main(String[] args) {
        badInNets();
        badInSheets();
        otherRefusals();
        asking();
        askingTwice();
        askingOfAnother();
        System.out.println("refusals: " + calls + " calls, "
                + (wrong == 0 ? "none changed anything" : wrong + " are not as due"));
        if (wrong != 0) System.exit(1);
    }
}
