import java.lang.reflect.Method;
import java.util.Arrays;

/** A net that is asked for all that a net can tell: the answers are PlainModel's. */
final class NetAsked {
    private static final int POINTS = -1, SETS = -2, K = -3, STEPS = -4;
    // the greatest of each argument, from 0 on: a number, or what grows with the net
    private static final Object[][] ASKED = {
        {"pointOf", POINTS, 4}, {"count", 2}, {"isCover", SETS}, {"costOf", SETS}, {"fewest", 4}, {"dear", 2},
        {"sized", POINTS}, {"bare", 2}, {"share", 1}, {"halves", 3}, {"half", POINTS}, {"mayHave", POINTS},
        {"mate", POINTS}, {"persists"}, {"isCrown", SETS}, {"crowns", 2}, {"kernel", K, 4}, {"round", K, STEPS, 2},
        {"pack", 1}, {"search", K, 4}, {"node", K, STEPS, 4}, {"prove", 0, K}, {"without", POINTS}, {"cut", 1},
        {"joins", 1}, {"pays", 2}, {"paid", POINTS, POINTS}};
    private static final Method[] CALLS = named(LinesTouched.class);
    private static final Method[] PLAINLY = named(PlainModel.class);
    private static final int CALLS_OF_AN_OBJECT = 512;
    static long answers = 0;
    static int wrong = 0;

    private final int[] kinds;
    private final int[] weights;
    private final boolean[][] lines;
    private final PlainModel y = new PlainModel();
    private LinesTouched x;
    private int calls;

    NetAsked(int[] kinds, int[] weights, boolean[][] lines) {
        this.kinds = kinds;
        this.weights = weights;
        this.lines = lines;
        for (int p = 0; p < kinds.length; p++) y.point(kinds[p], weights[p]);
        for (int a = 0; a < kinds.length; a++)
            for (int b = a + 1; b < kinds.length; b++) y.line(a, b, lines[a][b] ? 1 : 0);
        renew();
    }

    /** KINDS and WEIGHTS of all sorts, told by a number. */
    static NetAsked by(int number, boolean[][] lines) {
        int[] kinds = new int[lines.length];
        int[] weights = new int[lines.length];
        for (int p = 0; p < lines.length; p++) {
            kinds[p] = (p + number) % 6;
            weights[p] = 1 + (3 * p + number / 6) % 9;
        }
        return new NetAsked(kinds, weights, lines);
    }

    private static Method[] named(Class<?> c) {
        Method[] found = new Method[ASKED.length];
        try {
            for (int i = 0; i < ASKED.length; i++) {
                Class<?>[] types = new Class<?>[ASKED[i].length - 1];
                Arrays.fill(types, int.class);
                found[i] = c.getDeclaredMethod((String) ASKED[i][0], types);
            }
        } catch (NoSuchMethodException e) {
            throw new IllegalStateException(e);
        }
        return found;
    }

    private void renew() {
        x = new LinesTouched();
        calls = 0;
        for (int p = 0; p < kinds.length; p++, calls++) x.point(kinds[p], weights[p]);
        for (int a = 0; a < kinds.length; a++) {
            for (int b = a + 1; b < kinds.length; b++) {
                if (!lines[a][b]) continue;
                x.line(a, b, 1);
                calls++;
            }
        }
    }

    private int greatest(Object limit) {
        switch ((int) limit) {
            case POINTS: return kinds.length;
            case SETS: return 1 << kinds.length;
            case K: return Math.min(12, kinds.length);
            case STEPS: return 2 * kinds.length;
            default: return (int) limit;
        }
    }

    void askAll() throws ReflectiveOperationException {
        for (int i = 0; i < ASKED.length; i++) ask(i, new Object[ASKED[i].length - 1], 0);
    }

    private void ask(int which, Object[] args, int at) throws ReflectiveOperationException {
        if (at == args.length) {
            compare(which, args);
            return;
        }
        int most = greatest(ASKED[which][1 + at]);
        // of many sets some are enough
        int step = most > 128 ? 67 : 1;
        for (int v = 0; v <= most; v += step) {
            args[at] = v;
            ask(which, args, at + 1);
        }
    }

    private void compare(int which, Object[] args) throws ReflectiveOperationException {
        if (calls >= CALLS_OF_AN_OBJECT) renew();
        calls++;
        answers++;
        long got = ((Number) CALLS[which].invoke(x, args)).longValue();
        long want = ((Number) PLAINLY[which].invoke(y, args)).longValue();
        if (got == want) return;
        wrong++;
        System.out.println("a net of " + kinds.length + ": " + told() + ": " + ASKED[which][0] + Arrays.toString(args)
                + " answered " + got + ", due is " + want);
    }

    private String told() {
        StringBuilder text = new StringBuilder();
        for (int a = 0; a < kinds.length; a++)
            for (int b = a + 1; b < kinds.length; b++) if (lines[a][b]) text.append(a).append('-').append(b).append(' ');
        return text.toString().trim();
    }

    static void end(String name) {
        System.out.println(name + ": " + answers + " answers, "
                + (wrong == 0 ? "all as due" : wrong + " are not as due"));
        if (wrong != 0) System.exit(1);
    }
}
