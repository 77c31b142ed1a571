import java.util.ArrayList;
import java.util.Collections;
import java.util.List;
import java.util.Random;

/** Nets of twelve points by chance (always the same ones), most with few lines: there long ways of pairing are. */
public final class FullNetsTest {
    private static final int POINTS = 12;
    // nets in which a pairing is found only by way of all twelve
    private static final int[][] LONG_WAYS = {
        {0, 3, 0, 5, 0, 10, 1, 2, 1, 7, 2, 6, 3, 5, 3, 9, 4, 9, 4, 11, 7, 11, 8, 10, 8, 11},
        {0, 5, 0, 8, 0, 11, 1, 2, 1, 3, 1, 9, 1, 11, 2, 6, 2, 11, 3, 4, 3, 10, 4, 5, 4, 9, 4, 10, 6, 8, 7, 8},
        {0, 3, 0, 6, 1, 2, 1, 4, 1, 8, 2, 4, 2, 5, 2, 10, 3, 4, 3, 7, 4, 8, 5, 7, 6, 9, 8, 10, 9, 11}};

    private static void join(boolean[][] lines, int a, int b) {
        if (a == b) return;
        lines[a][b] = true;
        lines[b][a] = true;
    }

    /** A tree in any order of its points, broken here and there, and a few lines more. */
    private static boolean[][] nearlyTree(Random chance) {
        boolean[][] lines = new boolean[POINTS][POINTS];
        List<Integer> order = new ArrayList<>();
        for (int p = 0; p < POINTS; p++) order.add(p);
        Collections.shuffle(order, chance);
        int width = 1 + chance.nextInt(4);
        for (int i = 1; i < POINTS; i++) {
            int to = Math.max(0, i - 1 - chance.nextInt(width));
            if (chance.nextInt(12) > 0) join(lines, order.get(i), order.get(to));
        }
        for (int more = chance.nextInt(8); more > 0; more--) {
            join(lines, chance.nextInt(POINTS), chance.nextInt(POINTS));
        }
        return lines;
    }

    private static boolean[][] anyLines(Random chance, int odds) {
        boolean[][] lines = new boolean[POINTS][POINTS];
        for (int a = 0; a < POINTS; a++)
            for (int b = a + 1; b < POINTS; b++) if (chance.nextInt(10) < odds) join(lines, a, b);
        return lines;
    }

    public static void main(String[] args) throws ReflectiveOperationException {
        int nets = args.length > 0 ? Integer.parseInt(args[0]) : 200;
        for (int i = 0; i < LONG_WAYS.length; i++) {
            boolean[][] lines = new boolean[POINTS][POINTS];
            for (int j = 0; j + 1 < LONG_WAYS[i].length; j += 2) join(lines, LONG_WAYS[i][j], LONG_WAYS[i][j + 1]);
            NetAsked.by(i, lines).askAll();
        }
        for (int i = 0; i < nets && NetAsked.wrong < 20; i++) {
            Random chance = new Random(i);
            NetAsked.by(i, i % 3 < 2 ? nearlyTree(chance) : anyLines(chance, 1 + i / 3 % 9)).askAll();
        }
        NetAsked.end("full nets");
    }
}
