/** Every net of a few points. */
public final class AllSmallNetsTest {
    private static boolean[][] lines(int points, int bits) {
        boolean[][] lines = new boolean[points][points];
        int bit = 0;
        for (int a = 0; a < points; a++) {
            for (int b = a + 1; b < points; b++, bit++) {
                lines[a][b] = (bits >> bit & 1) != 0;
                lines[b][a] = lines[a][b];
            }
        }
        return lines;
    }

    public static void main(String[] args) throws ReflectiveOperationException {
        int most = args.length > 0 ? Integer.parseInt(args[0]) : 5;
        for (int points = 0; points <= most; points++)
            for (int bits = 0; bits < 1 << points * (points - 1) / 2 && NetAsked.wrong < 20; bits++)
                NetAsked.by(bits, lines(points, bits)).askAll();
        NetAsked.end("small nets");
    }
}
