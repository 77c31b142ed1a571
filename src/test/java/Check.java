import java.util.function.IntToLongFunction;

/** What the tests of single sentences share: the sentence at hand, its answers compared, and nets, rows, texts. */
final class Check {
    static final int NONE = LinesTouched.NONE, BAD = LinesTouched.BAD;
    static final int STATE = LinesTouched.STATE, FULL = LinesTouched.FULL;
    static final int LOW = Integer.MIN_VALUE, HIGH = Integer.MAX_VALUE;

    private final String name;
    private final boolean[] told = new boolean[53];
    private String sentence = "";
    private int answers = 0;
    private int sentences = 0;
    private int wrong = 0;

    Check(String name) {
        this.name = name;
    }

    /** From here on answers are compared for this sentence of a promise. */
    void says(int promise, String what) {
        told[promise] = true;
        sentence = "promise " + promise + " (" + what + ")";
        answers = 0;
        sentences++;
    }

    void due(long got, long want) {
        answers++;
        if (got == want) return;
        wrong++;
        System.out.println(name + ": " + sentence + ": answer " + answers + " was " + got + ", due is " + want);
    }

    /** The answers for 0, 1, .. in turn. */
    void dues(IntToLongFunction call, long... wants) {
        for (int i = 0; i < wants.length; i++) due(call.applyAsLong(i), wants[i]);
    }

    /** One and the same answer for each of some numbers. */
    void all(long want, IntToLongFunction call, int... numbers) {
        for (int v : numbers) due(call.applyAsLong(v), want);
    }

    /** Ends the test, which must have had each promise of a range. */
    void end(int from, int to) {
        for (int i = from; i <= to; i++) {
            if (told[i]) continue;
            wrong++;
            System.out.println(name + ": promise " + i + " has no sentence here");
        }
        System.out.println(name + ": " + sentences + " sentences, "
                + (wrong == 0 ? "all as due" : wrong + " answers are not as due"));
        if (wrong != 0) System.exit(1);
    }

    /** Points of kind 0 and weight 1, and lines told by their ends. */
    static LinesTouched net(int points, int... ends) {
        LinesTouched x = new LinesTouched();
        for (int i = 0; i < points; i++) x.point(0, 1);
        for (int i = 0; i + 1 < ends.length; i += 2) x.line(ends[i], ends[i + 1], 1);
        return x;
    }

    /** Points 0, 1, .. one behind another. */
    static LinesTouched path(int points) {
        LinesTouched x = net(points);
        for (int i = 0; i + 1 < points; i++) x.line(i, i + 1, 1);
        return x;
    }

    static LinesTouched ring(int points) {
        LinesTouched x = path(points);
        x.line(points - 1, 0, 1);
        return x;
    }

    /** All have lines to point 0. */
    static LinesTouched star(int points) {
        LinesTouched x = net(points);
        for (int i = 1; i < points; i++) x.line(0, i, 1);
        return x;
    }

    static LinesTouched whole(int points) {
        LinesTouched x = net(points);
        for (int a = 0; a < points; a++) for (int b = a + 1; b < points; b++) x.line(a, b, 1);
        return x;
    }

    /** Two of six points with all their lines: no longer refusal has been found. */
    static LinesTouched twoSixes() {
        LinesTouched x = net(12);
        for (int a = 0; a < 12; a++) for (int b = a + 1; b < 12; b++) if (a / 6 == b / 6) x.line(a, b, 1);
        return x;
    }

    static LinesTouched triangles(int many) {
        LinesTouched x = net(3 * many);
        for (int i = 0; i < 3 * many; i += 3) {
            x.line(i, i + 1, 1);
            x.line(i, i + 2, 1);
            x.line(i + 1, i + 2, 1);
        }
        return x;
    }

    /** A triangle of 0, 1, 2 with 3 hanging at 0. */
    static LinesTouched flag() {
        return net(4, 0, 1, 1, 2, 2, 0, 0, 3);
    }

    /** Points of kind 0 with these weights, and no lines. */
    static LinesTouched weighing(int... weights) {
        LinesTouched x = new LinesTouched();
        for (int w : weights) x.point(0, w);
        return x;
    }

    static void row(LinesTouched x, int s, int sort, int... numbers) {
        x.sheet(s, sort, numbers.length);
        for (int i = 0; i < numbers.length; i++) x.write(s, i, numbers[i]);
    }

    static void feedAll(LinesTouched x, String text) {
        for (int i = 0; i < text.length(); i++) x.feed(text.charAt(i), 1);
    }

    static int read(LinesTouched x, String text) {
        x.wipe();
        feedAll(x, text);
        return x.text();
    }

    /** A tree of one node with so many others standing in it. */
    static String bush(int others) {
        return "(" + "()".repeat(others) + ")";
    }

    static String chain(int nodes) {
        return "(".repeat(nodes) + ")".repeat(nodes);
    }
}
