import java.lang.reflect.Method;
import java.util.Arrays;

/** Every net of a few points, with all its sets, k, rounds and nodes asked for: the answers are PlainModel's. */
public final class AllSmallNetsTest {
    private static final int POINTS = -1, SETS = -2, K = -3, STEPS = -4;
    // the greatest of each argument, from 0 on: a number, or what grows with the net
    private static final Object[][] ASKED = {
        {"pointOf", POINTS, 4}, {"count", 2}, {"isCover", SETS}, {"costOf", SETS}, {"fewest", 4}, {"dear", 2},
        {"sized", POINTS}, {"bare", 2}, {"share", 1}, {"halves", 3}, {"half", POINTS}, {"mayHave", POINTS},
        {"mate", POINTS}, {"persists"}, {"isCrown", SETS}, {"crowns", 2}, {"kernel", K, 4}, {"round", K, STEPS, 2},
        {"pack", 1}, {"search", K, 4}, {"node", K, STEPS, 4}, {"prove", 0, K}, {"without", POINTS}, {"cut", 1},
        {"joins", 1}, {"pays", 2}, {"paid", POINTS, POINTS}};
    private static int wrong = 0;
    private static long answers = 0;

    private final int points;
    private final int lines;
    private LinesTouched x;
    private PlainModel y;

    private AllSmallNetsTest(int points, int lines) {
        this.points = points;
        this.lines = lines;
    }

    /** Both are new for each call that is asked about: an object is good for 512 calls. */
    private void build() {
        x = new LinesTouched();
        y = new PlainModel();
        for (int p = 0; p < points; p++) {
            int kind = (p + lines) % 6;
            int weight = 1 + (3 * p + lines / 6) % 9;
            x.point(kind, weight);
            y.point(kind, weight);
        }
        int bit = 0;
        for (int a = 0; a < points; a++) {
            for (int b = a + 1; b < points; b++, bit++) {
                x.line(a, b, lines >> bit & 1);
                y.line(a, b, lines >> bit & 1);
            }
        }
    }

    private int greatest(Object limit) {
        switch ((int) limit) {
            case POINTS: return points;
            case SETS: return 1 << points;
            case K: return Math.max(0, points - 1);
            case STEPS: return 2 * points;
            default: return (int) limit;
        }
    }

    private void ask(Method call, Method plain, Object[] asked, Object[] args, int at) throws Exception {
        if (at < args.length) {
            for (int v = 0; v <= greatest(asked[1 + at]); v++) {
                args[at] = v;
                ask(call, plain, asked, args, at + 1);
            }
            return;
        }
        long got = ((Number) call.invoke(x, args)).longValue();
        long want = ((Number) plain.invoke(y, args)).longValue();
        answers++;
        if (got == want) return;
        wrong++;
        System.out.println("small nets: " + points + " points, lines " + Integer.toBinaryString(lines) + ": "
                + asked[0] + Arrays.toString(args) + " answered " + got + ", due is " + want);
    }

    private static Method named(Class<?> c, Object[] asked) throws NoSuchMethodException {
        Class<?>[] types = new Class<?>[asked.length - 1];
        Arrays.fill(types, int.class);
        return c.getDeclaredMethod((String) asked[0], types);
    }

    public static void main(String[] args) throws Exception {
        int most = args.length > 0 ? Integer.parseInt(args[0]) : 5;
        for (Object[] asked : ASKED) {
            Method call = named(LinesTouched.class, asked);
            Method plain = named(PlainModel.class, asked);
            for (int points = 0; points <= most && wrong < 20; points++) {
                for (int lines = 0; lines < 1 << points * (points - 1) / 2; lines++) {
                    AllSmallNetsTest net = new AllSmallNetsTest(points, lines);
                    net.build();
                    net.ask(call, plain, asked, new Object[asked.length - 1], 0);
                }
            }
        }
        System.out.println("small nets: " + answers + " answers, "
                + (wrong == 0 ? "all as due" : wrong + " are not as due"));
        if (wrong != 0) System.exit(1);
    }
}
