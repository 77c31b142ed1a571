/** Promises 34 to 42, sentence by sentence where one names an edge: the tape, texts, trees, draws. */
public final class EdgesOfTreeTest {
    private static final int NONE = Check.NONE, BAD = Check.BAD, STATE = Check.STATE, FULL = Check.FULL;
    private static final int LOW = Check.LOW, HIGH = Check.HIGH;
    private static final Check CHECK = new Check("edges of the tree");

    private static LinesTouched fed(int bytes) {
        LinesTouched x = new LinesTouched();
        for (int i = 0; i < bytes; i++) x.feed(' ', 1);
        return x;
    }

    private static void feeding() {
        LinesTouched x = new LinesTouched();
        CHECK.says(34, "n is 1 to 4");
        CHECK.all(BAD, n -> x.feed(' ', n), 0, 5, -1, LOW, HIGH);
        CHECK.due(x.count(3), 0);
        CHECK.dues(i -> x.feed(' ', i + 1), 1, 3, 6, 10);
        CHECK.says(34, "the n lowest bytes alone, the highest of these first");
        x.wipe();
        x.feed(0x7a7a7a28, 1);
        x.feed(0x7a7a3729, 2);
        CHECK.due(x.text(), 1);
        CHECK.due(x.treeOf(0, 1), 7);
        x.feed(0x7a282029, 3);
        CHECK.due(x.text(), 1);
        CHECK.due(x.treeOf(0, 1), 1);
        x.feed(0x28382029, 4);
        CHECK.due(x.text(), 1);
        CHECK.due(x.treeOf(0, 1), 8);
        CHECK.says(34, "bytes above 127, of numbers below 0");
        CHECK.due(x.feed(-1, 4), 4);
        CHECK.due(x.text(), -100);
        x.feed('(', 1);
        x.feed(0xa8, 1);
        CHECK.due(x.text(), -101);
        x.feed(0x80000000 | '(' << 8 | ')', 2);
        CHECK.due(x.text(), 1);
        CHECK.says(34, "200 bytes at most: FULL, and nothing of it comes");
        for (int n = 1; n <= 4; n++) {
            LinesTouched y = fed(200 - n);
            CHECK.due(y.feed(' ', n), 200);
            CHECK.due(fed(201 - n).feed(' ', n), FULL);
            CHECK.due(y.feed(' ', n), FULL);
            CHECK.due(y.count(3), 200);
        }
        LinesTouched almost = fed(198);
        CHECK.due(almost.feed(0x20202029, 3), FULL);
        CHECK.due(almost.count(3), 198);
        CHECK.due(almost.feed('(' << 8 | ')', 2), 200);
        CHECK.due(almost.text(), 1);
        CHECK.says(34, "BAD is named ahead of FULL");
        CHECK.all(BAD, n -> fed(200).feed(' ', n), 0, 5);
        CHECK.says(35, "how many it had: all, none");
        LinesTouched z = fed(200);
        CHECK.due(z.wipe(), 200);
        CHECK.due(z.count(3), 0);
        CHECK.due(z.wipe(), 0);
        CHECK.says(35, "what comes behind begins anew");
        z.feed('x', 1);
        z.wipe();
        Check.feedAll(z, "()");
        CHECK.due(z.text(), 1);
        Check.feedAll(z, "(55toll");
        z.wipe();
        Check.feedAll(z, "(5");
        CHECK.due(z.text(), -102);
        Check.feedAll(z, "(tolls");
        z.wipe();
        Check.feedAll(z, "(toll");
        CHECK.due(z.text(), -105);
        CHECK.says(35, "THE TREE stays");
        z.feed('x', 1);
        CHECK.due(z.wipe(), 1);
        CHECK.due(z.count(5), 1);
    }

    private static void text(String text, int want) {
        LinesTouched x = new LinesTouched();
        CHECK.due(Check.read(x, text), want);
        CHECK.due(x.count(3), 0);
        CHECK.due(x.count(5), Math.max(0, want));
    }

    private static void tokens() {
        CHECK.says(36, "TOKENS, each as long as can be: WORDS");
        text("(toll)", 1);
        text("(tollz)", -101);
        text("(to ll)", -101);
        text("(tol)", -101);
        text("(tolltoll)", -101);
        text("(atoll)", -101);
        text("(toll club)", -106);
        CHECK.says(36, "each of the six WORDS, and no other");
        String[] words = {"point", "toll", "club", "keeper", "guild", "warden"};
        for (int kind = 0; kind < 6; kind++) {
            LinesTouched x = new LinesTouched();
            CHECK.due(Check.read(x, "(" + words[kind] + ")"), 1);
            CHECK.due(x.treeOf(0, 0), kind);
            text("(" + words[kind].substring(1) + ")", -101);
            text("(" + words[kind].substring(0, words[kind].length() - 1) + ")", -101);
            text("(" + words[kind] + "s)", -101);
            text("(x" + words[kind].substring(1) + ")", -101);
            text("(" + words[kind].substring(0, words[kind].length() - 1) + "x)", -101);
        }
        text("(tree)", -101);
        text("(z)", -101);
        CHECK.says(36, "a to z: the bytes beside them are others");
        text("(Toll)", -101);
        text("(toll`)", -105);
        text("(toll{)", -105);
        text("(tollA)", -105);
        CHECK.says(36, "NUMBERS: 1 to 9 in value, one digit");
        for (int d = 1; d <= 9; d++) {
            LinesTouched x = new LinesTouched();
            CHECK.due(Check.read(x, "(" + d + ")"), 1);
            CHECK.due(x.treeOf(0, 1), d);
        }
        text("(0)", -101);
        text("(10)", -101);
        text("(05)", -101);
        text("(99999999999999999999)", -101);
        text("(4294967297)", -101);
        CHECK.says(36, "digits: the bytes beside them are others");
        text("(5/)", -102);
        text("(5:)", -102);
        text("(-5)", -101);
        CHECK.says(36, "a WORD and a NUMBER side by side are two TOKENS");
        text("(toll5)", 1);
        text("(5toll)", -102);
        text("(toll05)", -105);
        CHECK.says(36, "else it is a point, else its WEIGHT is 1, also behind another that had some");
        LinesTouched x = new LinesTouched();
        CHECK.due(Check.read(x, "(toll 5 (warden 9) (club) (8) ())"), 5);
        CHECK.dues(v -> x.treeOf(v, 0), 1, 5, 2, 0, 0, BAD);
        CHECK.dues(v -> x.treeOf(v, 1), 5, 9, 1, 8, 1, BAD);
        Check.read(x, "(()()()())");
        CHECK.dues(v -> x.treeOf(v, 0), 0, 0, 0, 0, 0, BAD);
        CHECK.dues(v -> x.treeOf(v, 1), 1, 1, 1, 1, 1, BAD);
    }

    private static void blanks() {
        CHECK.says(36, "blanks (32) may stand between, and nothing else");
        text("  (  toll   5  (  )  )  ", 2);
        text(" ".repeat(198) + "()", 1);
        text("(\t)", -101);
        text("(\n)", -101);
        text("(" + (char) 0 + ")", -101);
        text("(" + (char) 160 + ")", -101);
        text("(" + (char) 31 + ")", -101);
        text("(!)", -101);
        text("(')", -101);
        text("(*)", -101);
    }

    private static void faults() {
        CHECK.says(36, "it ends too early: how many bytes there are");
        text("", -100);
        text(" ", -101);
        text(" ".repeat(200), -300);
        text("(", -101);
        text("(toll", -105);
        text("(toll 5", -107);
        text("(()", -103);
        text("(() ", -104);
        CHECK.says(36, "what can't stand at the first place");
        text(")", -100);
        text("toll", -100);
        text("5", -100);
        text("  x", -102);
        CHECK.says(36, "a WORD or NUMBER where none can stand any more");
        text("(5 toll)", -103);
        text("(5 5)", -103);
        text("(()toll)", -103);
        text("(()5)", -103);
        text("(toll()5)", -107);
        CHECK.says(36, "what stands behind the TEXT");
        text("())", -102);
        text("()()", -102);
        text("() 5", -103);
        text("()toll", -102);
        text("() ", 1);
        CHECK.says(36, "the first TOKEN that can't stand there, not a later one");
        text("(x)))", -101);
        text("(toll toll toll", -106);
        CHECK.says(36, "a ( while 20 of them are open");
        text(Check.chain(20), 20);
        text(Check.chain(21), -120);
        text("(".repeat(21), -120);
        text("(".repeat(20), -120);
        text("(" + Check.chain(19) + Check.chain(19) + ")", 39);
        text("(" + Check.chain(19) + Check.chain(20) + ")", -158);
        CHECK.says(36, "the 61st ( in all");
        text(Check.bush(59), 60);
        text(Check.bush(60), -219);
        text("(" + "()".repeat(59) + "(", -219);
        text("(" + "()".repeat(58) + "(())" + ")", -218);
        CHECK.says(36, "200 bytes are read to the last");
        text(" ".repeat(80) + Check.bush(59), 60);
        text(" ".repeat(80) + "(" + "()".repeat(59) + "x", -299);
        text("(".repeat(20) + ")".repeat(20) + " ".repeat(159) + "x", -299);
        text(" ".repeat(198) + "(5", -300);
        text(" ".repeat(195) + "(toll", -300);
        text(" ".repeat(197) + "(55", -298);
        text("(" + "5".repeat(199), -101);
        text("(" + "z".repeat(199), -101);
    }

    private static void textsAgain() {
        LinesTouched x = new LinesTouched();
        CHECK.says(36, "with a FAULT THE TREE stays, whole");
        Check.read(x, "(toll 5 (club 2) (guild (warden 9)))");
        CHECK.due(Check.read(x, "(club 7 (keeper 3) (point) (() x"), -131);
        CHECK.due(x.count(5), 4);
        CHECK.dues(v -> x.treeOf(v, 0), 1, 2, 4, 5, BAD);
        CHECK.dues(v -> x.treeOf(v, 1), 5, 2, 1, 9, BAD);
        CHECK.dues(v -> x.treeOf(v, 2), NONE, 0, 0, 2, BAD);
        CHECK.due(x.text(), -100);
        CHECK.due(x.count(5), 4);
        CHECK.says(36, "another TEXT tells another TREE, also a lesser one");
        CHECK.due(Check.read(x, "()"), 1);
        CHECK.due(x.count(5), 1);
        CHECK.due(x.treeOf(0, 0), 0);
        CHECK.due(x.treeOf(1, 0), BAD);
        CHECK.due(Check.read(x, Check.bush(2)), 3);
        CHECK.says(36, "POINTS stay");
        CHECK.due(x.count(0), 0);
    }

    private static LinesTouched grown(String text) {
        LinesTouched x = new LinesTouched();
        Check.read(x, text);
        return x;
    }

    private static void trees() {
        CHECK.says(37, "what is 0 to 5");
        CHECK.dues(grown("(())")::tree, 1, 3, 2, 1, 2, 2);
        CHECK.all(BAD, grown("(())")::tree, -1, 6, LOW, HIGH);
        CHECK.says(37, "NONE: there is no TREE, behind BAD");
        CHECK.dues(new LinesTouched()::tree, NONE, NONE, NONE, NONE, NONE, NONE, BAD);
        CHECK.due(new LinesTouched().tree(-1), BAD);
        CHECK.due(grown("(x)").tree(0), NONE);
        CHECK.says(37, "one NODE, which has no LINES");
        CHECK.dues(grown("(9)")::tree, 0, 2, 1, 0, 1, 1);
        CHECK.says(37, "60 NODES, 59 of them in one: a number above any int");
        CHECK.dues(grown(Check.bush(59))::tree, 1, (1L << 59) + 1, 1, 1, 1, 2);
        CHECK.says(37, "60 NODES, 29 twos and a NODE in one: many with fewest NODES and of least COST");
        LinesTouched twos = grown("(()" + "(())".repeat(29) + ")");
        long ways = 1L << 29;
        CHECK.dues(twos::tree, 30, 2 * 68630377364883L + ways, ways + 1, 30, ways + 1, ways + 1);
        CHECK.says(37, "as many as have fewest NODES, not as have one more");
        CHECK.dues(grown("(()()(()))")::tree, 2, 14, 2, 2, 2, 3);
        CHECK.says(37, "20 open: a row of NODES");
        CHECK.dues(grown(Check.chain(20))::tree, 10, 17711, 11, 10, 11, 265);
        CHECK.says(37, "less COST by more NODES");
        CHECK.dues(grown("(9(2)(2)(2))")::tree, 1, 9, 1, 6, 1, 2);
        CHECK.dues(grown("(6(2)(2)(2))")::tree, 1, 9, 1, 6, 2, 2);
        CHECK.says(37, "COST by KIND, LINES there, number");
        CHECK.dues(grown("(toll 3 (guild 1) (keeper 1))")::tree, 1, 5, 1, 4, 1, 2);
    }

    private static void treesTold() {
        LinesTouched x = grown("(warden 9 (keeper) (point 4 (guild 3)))");
        CHECK.says(38, "what is 0 to 5");
        CHECK.dues(w -> x.treeOf(2, w), 0, 4, 0, 1, 4, 1);
        CHECK.all(BAD, w -> x.treeOf(2, w), -1, 6, LOW, HIGH);
        CHECK.says(38, "BAD: no such NODE");
        CHECK.all(BAD, v -> x.treeOf(v, 0), -1, 4, 60, LOW, HIGH);
        CHECK.all(BAD, v -> x.treeOf(v, 2), -1, 4, 60, LOW, HIGH);
        CHECK.due(new LinesTouched().treeOf(0, 2), BAD);
        CHECK.says(38, "NONE: what NODE 0 stands in");
        CHECK.due(x.treeOf(0, 2), NONE);
        CHECK.due(x.treeOf(1, 2), 0);
        CHECK.says(38, "UNDER it also by others between");
        CHECK.dues(v -> x.treeOf(v, 3), 3, 0, 1, 0, BAD);
        LinesTouched deep = grown(Check.chain(20));
        CHECK.due(deep.treeOf(0, 3), 19);
        CHECK.due(deep.treeOf(19, 3), 0);
        CHECK.due(deep.treeOf(19, 2), 18);
        CHECK.says(38, "the last of 60");
        LinesTouched bush = grown("(" + "()".repeat(58) + "(guild 9))");
        CHECK.dues(w -> bush.treeOf(59, w), 4, 9, 0, 0, 77, 0);
        CHECK.due(bush.treeOf(60, 0), BAD);
        CHECK.due(bush.treeOf(0, 3), 59);
        CHECK.says(38, "COST by how many LINES it has there: the one that it stands in, and those in it");
        CHECK.dues(v -> x.treeOf(v, 4), 5, 1, 4, 9, BAD);
        CHECK.dues(v -> grown("(toll (toll (toll) (toll)) (toll))").treeOf(v, 4), 3, 4, 2, 2, 2);
        CHECK.due(grown("(toll)").treeOf(0, 4), 1);
        LinesTouched toll = grown("(toll 9" + "()".repeat(59) + ")");
        CHECK.due(toll.treeOf(0, 4), 68);
        CHECK.says(38, "MARKED: one NODE alone never is");
        CHECK.due(grown("()").treeOf(0, 5), 0);
        CHECK.says(38, "MARKED: from the last NODE on, if neither is yet");
        CHECK.dues(v -> deep.treeOf(v, 5), 1, 0, 1, 0, 1, 0, 1, 0, 1, 0, 1, 0, 1, 0, 1, 0, 1, 0, 1, 0, BAD);
        CHECK.dues(v -> grown(Check.chain(3)).treeOf(v, 5), 0, 1, 0, BAD);
        CHECK.dues(v -> grown("((())())").treeOf(v, 5), 1, 1, 0, 0, BAD);
        CHECK.dues(v -> grown("(()(()))").treeOf(v, 5), 1, 0, 1, 0, BAD);
    }

    private static void planting() {
        LinesTouched x = Check.path(3);
        CHECK.says(39, "NONE: there is no TREE, and the POINTS stay");
        CHECK.due(x.plant(), NONE);
        CHECK.due(x.count(0), 3);
        CHECK.due(x.count(1), 2);
        CHECK.says(39, "STATE: more than 12 NODES, and the POINTS stay");
        Check.read(x, Check.bush(12));
        CHECK.due(x.plant(), STATE);
        CHECK.due(x.count(0), 3);
        CHECK.due(x.count(1), 2);
        Check.read(x, Check.bush(59));
        CHECK.due(x.plant(), STATE);
        CHECK.says(39, "12 NODES");
        Check.read(x, "(guild 9" + "(toll 2)".repeat(11) + ")");
        CHECK.due(x.plant(), 12);
        CHECK.dues(w -> x.pointOf(0, w), 4, 9, 18, 4094, 11);
        CHECK.dues(w -> x.pointOf(11, w), 1, 2, 3, 1, 1);
        CHECK.says(39, "THE TREE stays, and can be planted again");
        CHECK.due(x.count(5), 12);
        x.deal(5, 10);
        CHECK.due(x.plant(), 12);
        CHECK.due(x.count(1), 11);
        CHECK.says(39, "all POINTS there were are none, with their LINES");
        x.deal(12, 10);
        Check.read(x, "()");
        CHECK.due(x.plant(), 1);
        CHECK.due(x.count(1), 0);
        x.point(0, 1);
        CHECK.due(x.count(1), 0);
        CHECK.says(39, "z stays");
        int z = x.count(4);
        x.plant();
        CHECK.due(x.count(4), z);
    }

    /** The document's z behind some draws, by longs. */
    private static int drawn(int z, int draws) {
        long at = z & 0xffffffffL;
        for (int i = 0; i < draws; i++) at = (at * 1103515245L + 12345L) & 0xffffffffL;
        return (int) at;
    }

    private static int draw(int z, int draws) {
        return (int) ((drawn(z, draws) & 0xffffffffL) >> 16);
    }

    private static void seeds() {
        LinesTouched x = new LinesTouched();
        CHECK.says(40, "any number, and what it was: 1 at first");
        CHECK.due(x.seed(0), 1);
        CHECK.due(x.seed(LOW), 0);
        CHECK.due(x.seed(HIGH), LOW);
        CHECK.due(x.seed(-1), HIGH);
        CHECK.due(x.seed(-1), -1);
        CHECK.due(x.count(4), -1);
    }

    private static void dealing() {
        LinesTouched x = Check.path(3);
        CHECK.says(41, "n is 0 to 12");
        CHECK.all(BAD, n -> x.deal(n, 5), -1, 13, LOW, HIGH);
        CHECK.says(41, "odds are 0 to 10");
        CHECK.all(BAD, odds -> x.deal(3, odds), -1, 11, LOW, HIGH);
        CHECK.says(41, "BAD leaves POINTS, LINES and z");
        CHECK.dues(x::count, 3, 2, 0, 0, 1, 0);
        CHECK.says(41, "no POINTS: no DRAW");
        CHECK.due(x.deal(0, 10), 0);
        CHECK.dues(x::count, 0, 0, 0, 0, 1, 0);
        CHECK.says(41, "one POINT: two DRAWS");
        CHECK.due(x.deal(1, 10), 0);
        CHECK.due(x.count(4), drawn(1, 2));
        CHECK.says(41, "12 POINTS: 24 DRAWS and 66, whatever the odds");
        for (int odds = 0; odds <= 10; odds += 5) {
            x.seed(4711);
            x.deal(12, odds);
            CHECK.due(x.count(4), drawn(4711, 90));
        }
        CHECK.says(41, "odds 0: no LINE; odds 10: all");
        CHECK.due(x.deal(12, 0), 0);
        CHECK.due(x.deal(12, 10), 66);
        CHECK.due(x.deal(2, 10), 1);
        CHECK.says(41, "z wraps around; a DRAW is never below 0");
        for (int seed : new int[] {1, 0, -1, LOW, HIGH, 77, 123456789, -987654321}) {
            x.seed(seed);
            x.deal(12, 4);
            int at = 0;
            for (int p = 0; p < 12; p++) {
                CHECK.due(x.pointOf(p, 0), draw(seed, ++at) % 6);
                CHECK.due(x.pointOf(p, 1), 1 + draw(seed, ++at) % 9);
            }
            for (int a = 0; a < 12; a++)
                for (int b = a + 1; b < 12; b++)
                    CHECK.due(x.pointOf(a, 3) >> b & 1, draw(seed, ++at) % 10 < 4 ? 1 : 0);
        }
    }

    private static void times() {
        LinesTouched x = Check.path(3);
        CHECK.says(42, "n is 1 to 20");
        CHECK.all(BAD, n -> x.times(n, 3, 5, 3), 0, 21, -1, LOW, HIGH);
        CHECK.due(x.times(1, 3, 5, 3), 1);
        CHECK.due(x.times(20, 3, 5, 3), 20);
        CHECK.says(42, "points are 0 to 12");
        CHECK.all(BAD, points -> x.times(1, points, 5, 3), -1, 13, LOW, HIGH);
        CHECK.due(x.times(20, 0, 5, 0), 20);
        CHECK.due(x.times(20, 12, 10, 12), 20);
        CHECK.says(42, "odds are 0 to 10");
        CHECK.all(BAD, odds -> x.times(1, 3, odds, 3), -1, 11, LOW, HIGH);
        CHECK.due(x.times(20, 12, 0, 0), 20);
        CHECK.due(x.times(20, 12, 10, 0), 0);
        CHECK.says(42, "k is 0 to 12");
        CHECK.all(BAD, k -> x.times(1, 3, 5, k), -1, 13, LOW, HIGH);
        CHECK.says(42, "k POINTS or fewer");
        CHECK.due(x.times(20, 5, 10, 3), 0);
        CHECK.due(x.times(20, 5, 10, 4), 20);
        CHECK.due(x.times(20, 5, 10, 5), 20);
        CHECK.says(42, "one behind another: n times are n deals");
        for (int k = 0; k <= 6; k++) {
            LinesTouched y = new LinesTouched();
            y.seed(99);
            LinesTouched z = new LinesTouched();
            z.seed(99);
            int many = 0;
            for (int i = 0; i < 20; i++) {
                z.deal(8, 4);
                if (z.fewest(0) <= k) many++;
            }
            CHECK.due(y.times(20, 8, 4, k), many);
        }
        CHECK.says(42, "in thought: POINTS, LINES and z stay");
        CHECK.dues(x::count, 3, 2, 0, 0, 1, 0);
        CHECK.dues(p -> x.pointOf(p, 3), 2, 5, 2, BAD);
    }

    public static void main(String[] args) {
        feeding();
        tokens();
        blanks();
        faults();
        textsAgain();
        trees();
        treesTold();
        planting();
        seeds();
        dealing();
        times();
        CHECK.end(34, 42);
    }
}
