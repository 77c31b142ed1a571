/** Promises 43 to 52, sentence by sentence where one names an edge: sheets, shelves, the image. */
public final class EdgesOfSheetsTest {
    private static final int BAD = Check.BAD, STATE = Check.STATE;
    private static final int LOW = Check.LOW, HIGH = Check.HIGH;
    private static final Check CHECK = new Check("edges of sheets");

    private static void sheets() {
        LinesTouched x = new LinesTouched();
        CHECK.says(43, "BAD: SHEET, which is 0 to 3");
        CHECK.all(BAD, s -> x.sheet(s, 0, 1), -1, 4, LOW, HIGH);
        CHECK.all(BAD, s -> x.sheet(s, -1, 1), -1, 4);
        CHECK.dues(s -> x.sheet(s, 0, 1), 1, 1, 1, 1, BAD);
        CHECK.says(43, "BAD: sort, which is -1 to 2");
        CHECK.all(BAD, sort -> x.sheet(0, sort, 1), -2, 3, LOW, HIGH);
        CHECK.dues(sort -> x.sheet(0, sort, 1), 1, 1, 1, BAD);
        CHECK.says(43, "n: 0 and 60 are taken");
        CHECK.due(x.sheet(0, 0, 0), 1);
        CHECK.due(x.item(0, 0), -12);
        CHECK.due(x.sheet(0, 0, 60), 1);
        CHECK.due(x.item(0, 59), 0);
        CHECK.due(x.item(0, 60), -12);
        CHECK.says(43, "BAD: n above 60");
        CHECK.all(BAD, n -> x.sheet(0, 2, n), 61, HIGH);
        CHECK.says(43, "-14: n below 0, behind BAD");
        CHECK.all(-14, n -> x.sheet(0, 2, n), -1, LOW);
        CHECK.due(x.sheet(0, 3, -1), BAD);
        CHECK.due(x.sheet(4, 2, -1), BAD);
        CHECK.says(43, "refused: the SHEET stays");
        x.shelf(0, 1, 0);
        CHECK.due(x.taken(0, 10), 60);
        CHECK.says(43, "missing: n doesn't matter");
        for (int n : new int[] {0, 60, 61, -1, LOW, HIGH}) {
            x.sheet(0, 0, 1);
            CHECK.due(x.sheet(0, -1, n), 1);
            CHECK.due(x.item(0, 0), -11);
        }
        CHECK.due(x.sheet(0, -1, 0), 1);
        CHECK.says(43, "all 0, whatever it was");
        Check.row(x, 0, 2, 7, 8, 9);
        CHECK.due(x.sheet(0, 2, 3), 1);
        CHECK.dues(i -> x.item(0, i), 0, 0, 0, -12);
        Check.row(x, 0, 2, 7, 8, 9);
        x.sheet(0, 1, 1);
        x.sheet(0, 2, 3);
        CHECK.dues(i -> x.item(0, i), 0, 0, 0, -12);
        Check.row(x, 0, 2, 7, 8, 9);
        x.sheet(0, -1, 0);
        x.sheet(0, 2, 3);
        CHECK.dues(i -> x.item(0, i), 0, 0, 0, -12);
        CHECK.says(43, "the other SHEETS stay");
        Check.row(x, 1, 2, 5);
        x.sheet(0, 2, 3);
        x.sheet(2, -1, 3);
        CHECK.due(x.item(1, 0), 5);
    }

    private static int written(int sort, int v) {
        LinesTouched x = new LinesTouched();
        x.sheet(2, sort, 3);
        CHECK.due(x.write(2, 1, v), 1);
        CHECK.due(x.item(2, 0), 0);
        CHECK.due(x.item(2, 2), 0);
        return x.item(2, 1);
    }

    private static void numbers() {
        CHECK.says(44, "bytes: their lowest bits wrap around at 127 and -128");
        int[] values = {127, 128, 255, 256, -128, -129, -256, LOW, HIGH, 0x12345680};
        int[] bytes = {127, -128, -1, 0, -128, 127, 0, 0, -1, -128};
        for (int i = 0; i < values.length; i++) CHECK.due(written(0, values[i]), bytes[i]);
        CHECK.says(44, "shorts: their lowest bits wrap around at 32767 and -32768");
        values = new int[] {32767, 32768, 65535, 65536, -32768, -32769, LOW, HIGH, 0x12348000, 128};
        int[] shorts = {32767, -32768, -1, 0, -32768, 32767, 0, -1, -32768, 128};
        for (int i = 0; i < values.length; i++) CHECK.due(written(1, values[i]), shorts[i]);
        CHECK.says(44, "ints: any number");
        for (int v : new int[] {LOW, HIGH, -1, 65536, -12}) CHECK.due(written(2, v), v);
        LinesTouched x = new LinesTouched();
        x.sheet(0, 2, 60);
        x.sheet(2, 2, 0);
        CHECK.says(44, "BAD: SHEET");
        CHECK.all(BAD, s -> x.write(s, 0, 1), -1, 4, LOW, HIGH);
        CHECK.due(x.write(4, -1, 1), BAD);
        CHECK.says(44, "-11: a missing one, ahead of -12");
        CHECK.due(x.write(1, 0, 1), -11);
        CHECK.due(x.write(1, -1, 1), -11);
        CHECK.says(44, "-12: a place outside");
        CHECK.all(-12, i -> x.write(0, i, 1), -1, 60, LOW, HIGH);
        CHECK.due(x.write(2, 0, 1), -12);
        CHECK.due(x.write(0, 59, 1), 1);
        CHECK.due(x.write(0, 0, 1), 1);
        CHECK.says(45, "BAD: SHEET");
        CHECK.all(BAD, s -> x.item(s, 0), -1, 4, LOW, HIGH);
        CHECK.due(x.item(4, -1), BAD);
        CHECK.says(45, "-11: a missing one, ahead of -12");
        CHECK.due(x.item(1, 0), -11);
        CHECK.due(x.item(1, 60), -11);
        CHECK.says(45, "-12: a place outside");
        CHECK.all(-12, i -> x.item(0, i), -1, 60, LOW, HIGH);
        CHECK.due(x.item(2, 0), -12);
        CHECK.due(x.item(0, 59), 1);
        CHECK.says(45, "it may be as low as refusals are");
        for (int v : new int[] {-1, -2, -11, -12, LOW}) {
            x.write(0, 3, v);
            CHECK.due(x.item(0, 3), v);
        }
    }

    private static void copies() {
        LinesTouched x = new LinesTouched();
        Check.row(x, 0, 1, 1, 2, 3, 4, 5);
        Check.row(x, 1, 1, 0, 0, 0);
        Check.row(x, 2, 2, 9, 9, 9);
        CHECK.says(46, "BAD: SHEETS, either");
        CHECK.all(BAD, s -> x.copy(s, 0, 0, 0, 1), -1, 4, LOW, HIGH);
        CHECK.all(BAD, s -> x.copy(0, 0, s, 0, 1), -1, 4, LOW, HIGH);
        CHECK.says(46, "-11: either is missing, behind BAD");
        CHECK.due(x.copy(3, 0, 0, 0, 1), -11);
        CHECK.due(x.copy(0, 0, 3, 0, 1), -11);
        CHECK.due(x.copy(3, 0, 3, 0, 0), -11);
        CHECK.due(x.copy(3, 0, 4, 0, 1), BAD);
        CHECK.due(x.copy(4, 0, 3, 0, 1), BAD);
        CHECK.due(x.copy(3, -1, 0, -1, -1), -11);
        CHECK.says(46, "-13: of unlike sorts, ahead of -12");
        CHECK.due(x.copy(0, 0, 2, 0, 1), -13);
        CHECK.due(x.copy(2, 0, 0, 0, 1), -13);
        CHECK.due(x.copy(0, 0, 2, 0, 0), -13);
        CHECK.due(x.copy(0, -1, 2, 9, -1), -13);
        CHECK.says(46, "-12: n below 0");
        CHECK.all(-12, n -> x.copy(0, 1, 1, 1, n), -1, LOW);
        CHECK.says(46, "-12: places outside, also where they would wrap around");
        CHECK.all(-12, i -> x.copy(0, i, 1, 0, 1), -1, 5, 6, LOW, HIGH);
        CHECK.all(-12, j -> x.copy(0, 0, 1, j, 1), -1, 3, 4, LOW, HIGH);
        CHECK.all(-12, n -> x.copy(0, 1, 1, 1, n), 3, 60, HIGH);
        CHECK.all(-12, n -> x.copy(1, 1, 0, 1, n), 3, 60, HIGH);
        CHECK.due(x.copy(0, HIGH, 1, 0, HIGH), -12);
        CHECK.due(x.copy(0, 0, 1, HIGH, 2), -12);
        CHECK.due(x.copy(0, LOW, 1, 0, LOW), -12);
        CHECK.says(46, "none of them, at any place and just behind the last one");
        CHECK.due(x.copy(0, 5, 1, 3, 0), 0);
        CHECK.due(x.copy(0, 0, 1, 0, 0), 0);
        CHECK.due(x.copy(0, 6, 1, 0, 0), -12);
        CHECK.due(x.copy(0, 0, 1, 4, 0), -12);
        CHECK.due(x.copy(0, -1, 1, 0, 0), -12);
        CHECK.dues(i -> x.item(1, i), 0, 0, 0, -12);
        CHECK.says(46, "as many as there is room for");
        CHECK.due(x.copy(0, 2, 1, 0, 3), 3);
        CHECK.dues(i -> x.item(1, i), 3, 4, 5, -12);
        CHECK.due(x.copy(0, 0, 1, 2, 1), 1);
        CHECK.dues(i -> x.item(1, i), 3, 4, 1, -12);
        CHECK.says(46, "the same one, as they were: onwards and back");
        CHECK.due(x.copy(0, 0, 0, 1, 4), 4);
        CHECK.dues(i -> x.item(0, i), 1, 1, 2, 3, 4, -12);
        CHECK.due(x.copy(0, 1, 0, 0, 4), 4);
        CHECK.dues(i -> x.item(0, i), 1, 2, 3, 4, 4, -12);
        CHECK.due(x.copy(0, 0, 0, 0, 5), 5);
        CHECK.dues(i -> x.item(0, i), 1, 2, 3, 4, 4, -12);
        CHECK.says(46, "all 60");
        x.sheet(1, 1, 60);
        x.sheet(0, 1, 60);
        x.write(0, 59, -7);
        CHECK.due(x.copy(0, 0, 1, 0, 60), 60);
        CHECK.due(x.item(1, 59), -7);
        CHECK.due(x.copy(0, 0, 1, 0, 61), -12);
    }

    private static int loaded(LinesTouched x, int... numbers) {
        Check.row(x, 0, 2, numbers);
        return x.load(0);
    }

    private static void loads() {
        LinesTouched x = Check.net(3);
        CHECK.says(47, "BAD: SHEET");
        CHECK.all(BAD, x::load, -1, 4, LOW, HIGH);
        CHECK.says(47, "-11: a missing one");
        CHECK.dues(x::load, -11, -11, -11, -11);
        CHECK.says(47, "none comes: an empty SHEET, no POINTS");
        CHECK.due(loaded(x), 0);
        CHECK.due(loaded(new LinesTouched(), 5, 5), 0);
        CHECK.says(47, "1 and 9 come");
        CHECK.due(loaded(x, 9, 1, 9), 3);
        CHECK.dues(p -> x.pointOf(p, 1), 9, 1, 9, BAD);
        CHECK.says(47, "ends at the first that isn't 1 to 9; those ahead of it have come, those behind don't");
        for (int wrong : new int[] {0, 10, -1, LOW, HIGH}) {
            loaded(x, 1, 1, 1);
            CHECK.due(loaded(x, 5, wrong, 7), 1);
            CHECK.dues(p -> x.pointOf(p, 1), 5, 1, 1, BAD);
        }
        CHECK.due(loaded(x, 0, 5, 5), 0);
        CHECK.says(47, "ends where there is no POINT");
        CHECK.due(loaded(x, 2, 3, 4, 5), 3);
        CHECK.due(x.count(0), 3);
        CHECK.dues(p -> x.pointOf(p, 1), 2, 3, 4, BAD);
        LinesTouched all = Check.net(12);
        all.sheet(0, 0, 60);
        for (int i = 0; i < 60; i++) all.write(0, i, 6);
        CHECK.due(all.load(0), 12);
        CHECK.due(all.pointOf(11, 1), 6);
        CHECK.says(47, "fewer than POINTS: the others stay");
        CHECK.due(loaded(x, 9), 1);
        CHECK.dues(p -> x.pointOf(p, 1), 9, 3, 4, BAD);
    }

    private static int judged(LinesTouched x, int... numbers) {
        Check.row(x, 0, 2, numbers);
        return x.judge(0);
    }

    private static void judges() {
        LinesTouched x = Check.path(3);
        CHECK.says(48, "BAD: SHEET");
        CHECK.all(BAD, x::judge, -1, 4, LOW, HIGH);
        CHECK.says(48, "-11: a missing one");
        CHECK.dues(x::judge, -11, -11, -11, -11);
        CHECK.says(48, "0: any LEAST HALVES, not THE HALVES alone");
        CHECK.due(judged(x, 0, 2, 0), 0);
        LinesTouched two = Check.path(2);
        CHECK.due(judged(two, 0, 2), 0);
        CHECK.due(judged(two, 1, 1), 0);
        CHECK.due(judged(two, 2, 0), 0);
        CHECK.says(48, "no POINTS, no numbers");
        CHECK.due(judged(new LinesTouched()), 0);
        CHECK.says(48, "the first that isn't 0 to 2");
        CHECK.all(2, v -> judged(x, 0, v, 0), -1, 3, LOW, HIGH);
        CHECK.due(judged(x, 3, 3, 3), 1);
        CHECK.all(1, v -> judged(Check.net(1), v), -1, 3, LOW, HIGH);
        CHECK.due(judged(x, 0, 2, -1), 3);
        CHECK.says(48, "the first that has no POINT");
        CHECK.due(judged(x, 0, 2, 0, 0), 4);
        CHECK.due(judged(x, 0, 2, 0, 9, 9), 4);
        CHECK.due(judged(new LinesTouched(), 0), 1);
        LinesTouched all = Check.net(12);
        all.sheet(0, 0, 12);
        CHECK.due(all.judge(0), 0);
        all.sheet(0, 0, 13);
        CHECK.due(all.judge(0), 13);
        all.sheet(0, 0, 60);
        CHECK.due(all.judge(0), 13);
        CHECK.says(48, "less than 2 together with that of a lesser POINT; just 2 are enough");
        CHECK.due(judged(x, 0, 1, 1), 2);
        CHECK.due(judged(x, 1, 0, 2), 2);
        CHECK.due(judged(x, 0, 2, 0), 0);
        CHECK.due(judged(x, 2, 0, 1), 3);
        CHECK.due(judged(Check.net(3, 0, 2), 0, 0, 1), 3);
        CHECK.due(judged(Check.net(3, 0, 2), 0, 0, 2), 0);
        CHECK.says(48, "the first of several");
        CHECK.due(judged(x, 0, 0, 5, 5), 2);
        CHECK.says(48, "a place ahead of 100, though they are fewer than POINTS");
        CHECK.due(judged(x, 0, 0), 2);
        CHECK.says(48, "100: fewer than POINTS");
        CHECK.due(judged(x), 100);
        CHECK.due(judged(x, 0), 100);
        CHECK.due(judged(x, 0, 2), 100);
        CHECK.due(judged(Check.net(3), 0, 0), 100);
        CHECK.says(48, "100: not LEAST");
        CHECK.due(judged(x, 1, 1, 1), 100);
        CHECK.due(judged(x, 2, 2, 2), 100);
        CHECK.due(judged(x, 0, 2, 1), 100);
        CHECK.due(judged(Check.net(1), 1), 100);
    }

    private static void shelves() {
        LinesTouched x = Check.net(12);
        CHECK.says(49, "BAD: SHELF, which is 0 to 3");
        for (int what = 0; what < 3; what++) {
            int w = what;
            CHECK.all(BAD, h -> x.shelf(h, w, 0), -1, 4, LOW, HIGH);
            CHECK.dues(h -> x.shelf(h, w, 0), 1, 1, 1, 1, BAD);
        }
        CHECK.says(49, "BAD: what, which is 0 to 2");
        CHECK.all(BAD, w -> x.shelf(0, w, 0), -1, 3, LOW, HIGH);
        CHECK.says(49, "BAD: no such POINT");
        CHECK.all(BAD, n -> x.shelf(0, 0, n), -1, 12, LOW, HIGH);
        CHECK.due(x.shelf(0, 0, 11), 1);
        CHECK.due(new LinesTouched().shelf(0, 0, 0), BAD);
        CHECK.due(Check.net(2).shelf(0, 0, 2), BAD);
        CHECK.says(49, "refused: what it held stays");
        CHECK.due(x.taken(0, 0), 11);
        CHECK.says(49, "BAD: no such SHEET");
        CHECK.all(BAD, n -> x.shelf(0, 1, n), -1, 4, LOW, HIGH);
        CHECK.due(x.taken(0, 0), 11);
        CHECK.says(49, "nothing, if the SHEET is missing");
        CHECK.due(x.shelf(0, 1, 3), 1);
        CHECK.due(x.taken(0, 0), -11);
        CHECK.due(x.taken(0, 10), -11);
        CHECK.says(49, "nothing (2): n doesn't matter");
        for (int n : new int[] {0, -1, 99, LOW, HIGH}) {
            x.shelf(1, 0, 4);
            CHECK.due(x.shelf(1, 2, n), 1);
            CHECK.due(x.taken(1, 0), -11);
        }
        CHECK.says(49, "the other SHELVES stay");
        x.shelf(2, 0, 7);
        x.shelf(1, 2, 0);
        x.shelf(3, 0, 8);
        CHECK.due(x.taken(2, 0), 7);
        CHECK.due(x.taken(3, 0), 8);
    }

    private static void takenAsPoints() {
        LinesTouched x = new LinesTouched();
        for (int kind = 0; kind < 6; kind++) x.point(kind, 1);
        CHECK.says(50, "of KIND as, or one under it, also by others between; else -13");
        int no = -13;
        int[][] fits = {{0, no, no, no, no, no}, {1, 1, no, no, no, no}, {2, no, 2, no, no, no},
            {3, 3, no, 3, no, no}, {4, no, 4, no, 4, no}, {5, 5, no, 5, no, 5}};
        for (int p = 0; p < 6; p++) {
            x.shelf(0, 0, p);
            for (int as = 0; as < 6; as++) CHECK.due(x.taken(0, as), fits[p][as]);
        }
        CHECK.says(50, "-13: a POINT taken for a row");
        CHECK.all(-13, as -> x.taken(0, as), 10, 11, 12);
        CHECK.says(50, "BAD: SHELF");
        CHECK.all(BAD, h -> x.taken(h, 0), -1, 4, LOW, HIGH);
        CHECK.says(50, "BAD: as, which is 0 to 5 or 10 to 12, ahead of -11 and -13");
        for (int h = 0; h < 4; h++) {
            int shelf = h;
            CHECK.all(BAD, as -> x.taken(shelf, as), -1, 6, 9, 13, LOW, HIGH);
        }
        CHECK.says(50, "-11: nothing is held, ahead of -13");
        CHECK.all(-11, as -> x.taken(1, as), 0, 5, 10, 12);
        CHECK.says(50, "by its KIND now");
        x.change(5, 0, 4);
        CHECK.dues(as -> x.taken(0, as), 5, -13, 5, -13, 5, -13);
        CHECK.says(50, "nothing, while there is no such POINT; there again later");
        x.deal(5, 0);
        CHECK.all(-11, as -> x.taken(0, as), 0, 5, 10, 12);
        x.point(3, 1);
        CHECK.due(x.taken(0, 3), 5);
        x.deal(0, 0);
        x.shelf(1, 2, 0);
        CHECK.due(x.taken(0, 0), -11);
        Check.read(x, Check.bush(5));
        x.plant();
        CHECK.due(x.taken(0, 0), 5);
    }

    private static void takenAsRows() {
        LinesTouched x = Check.net(1);
        CHECK.says(50, "a row of sort as - 10: how many numbers; else -13");
        for (int sort = 0; sort < 3; sort++) {
            x.sheet(0, sort, 7);
            x.shelf(0, 1, 0);
            for (int as = 10; as < 13; as++) CHECK.due(x.taken(0, as), as == sort + 10 ? 7 : -13);
        }
        CHECK.says(50, "-13: a row taken for a POINT");
        CHECK.all(-13, as -> x.taken(0, as), 0, 1, 5);
        CHECK.says(50, "rows of 0 and of 60 numbers");
        x.sheet(0, 0, 0);
        x.sheet(1, 2, 60);
        x.shelf(0, 1, 0);
        x.shelf(1, 1, 1);
        CHECK.due(x.taken(0, 10), 0);
        CHECK.due(x.taken(1, 12), 60);
        CHECK.says(50, "the row that the SHEET was then");
        x.sheet(1, 1, 3);
        CHECK.due(x.taken(1, 12), 60);
        CHECK.due(x.taken(1, 11), -13);
        x.sheet(1, -1, 0);
        CHECK.due(x.taken(1, 12), 60);
        x.shelf(0, 1, 1);
        x.sheet(1, 1, 3);
        CHECK.due(x.taken(0, 11), -11);
        LinesTouched y = Check.whole(5);
        y.sheet(0, 0, 9);
        y.shelf(0, 1, 0);
        y.prove(0, 3);
        CHECK.due(y.taken(0, 10), 9);
        y.shelf(0, 1, 0);
        CHECK.due(y.taken(0, 11), 5);
        CHECK.says(50, "a POINT behind a row, a row behind a POINT");
        y.shelf(0, 0, 4);
        CHECK.due(y.taken(0, 0), 4);
        CHECK.due(y.taken(0, 11), -13);
        y.shelf(0, 1, 0);
        CHECK.due(y.taken(0, 11), 5);
        CHECK.due(y.taken(0, 0), -13);
        CHECK.says(50, "a row stays, though the POINTS go");
        y.deal(0, 0);
        CHECK.due(y.taken(0, 11), 5);
    }

    private static void images() {
        LinesTouched x = new LinesTouched();
        CHECK.says(52, "STATE: there is none");
        CHECK.due(x.back(), STATE);
        CHECK.due(x.count(4), 1);
        CHECK.says(51, "of no POINTS, of 12");
        CHECK.due(x.image(), 0);
        CHECK.due(Check.whole(12).image(), 12);
        CHECK.says(52, "an IMAGE of no POINTS is one");
        x.deal(12, 10);
        CHECK.due(x.back(), 0);
        CHECK.dues(x::count, 0, 0, 0, 0, 1, 0);
        x.point(0, 1);
        x.point(0, 1);
        CHECK.due(x.count(1), 0);
        CHECK.says(52, "POINTS, LINES and z are as they were then");
        LinesTouched y = Check.net(3, 0, 2);
        y.change(1, 0, 5);
        y.change(2, 1, 8);
        y.seed(-9);
        CHECK.due(y.image(), 3);
        for (int i = 0; i < 2; i++) {
            y.change(1, 0, 2);
            y.change(2, 1, 3);
            y.line(0, 2, 0);
            y.line(0, 1, 1);
            y.point(4, 4);
            y.seed(7);
            CHECK.due(y.back(), 3);
            CHECK.dues(p -> y.pointOf(p, 0), 0, 5, 0, BAD);
            CHECK.dues(p -> y.pointOf(p, 1), 1, 1, 8, BAD);
            CHECK.dues(p -> y.pointOf(p, 3), 4, 0, 1, BAD);
            CHECK.due(y.count(4), -9);
            CHECK.says(52, "it stays: back again, behind deal");
            y.deal(12, 10);
        }
        CHECK.says(52, "nothing else is as it was: THE TAPE, THE TREE, SHEETS, SHELVES stay");
        y.feed('x', 1);
        y.image();
        y.wipe();
        Check.read(y, "(())");
        y.feed('(' << 8 | ')', 2);
        Check.row(y, 2, 2, 6);
        y.shelf(3, 1, 2);
        y.back();
        CHECK.due(y.count(3), 2);
        CHECK.due(y.count(5), 2);
        CHECK.due(y.item(2, 0), 6);
        CHECK.due(y.taken(3, 12), 1);
        CHECK.says(51, "another IMAGE takes the first one's place");
        y.deal(4, 10);
        CHECK.due(y.image(), 4);
        y.deal(2, 0);
        CHECK.due(y.back(), 4);
        CHECK.due(y.count(1), 6);
        CHECK.says(51, "POINTS, LINES and z stay");
        int z = y.count(4);
        CHECK.due(y.image(), 4);
        CHECK.due(y.count(1), 6);
        CHECK.due(y.count(4), z);
    }

    private static void imageOfTwelve() {
        LinesTouched x = new LinesTouched();
        for (int p = 0; p < 12; p++) x.point(p % 6, 1 + p % 9);
        for (int p = 0; p < 12; p++) x.line(p, (p + 1) % 12, 1);
        CHECK.says(51, "KIND, WEIGHT and LINES of each of 12 POINTS");
        CHECK.due(x.image(), 12);
        for (int p = 0; p < 12; p++) {
            x.change(p, 0, (p + 1) % 6);
            x.change(p, 1, 1 + (p + 1) % 9);
            x.line(p, (p + 1) % 12, 0);
        }
        CHECK.says(52, "KIND, WEIGHT and LINES of each of 12 POINTS");
        CHECK.due(x.back(), 12);
        CHECK.dues(p -> x.pointOf(p, 0), 0, 1, 2, 3, 4, 5, 0, 1, 2, 3, 4, 5, BAD);
        CHECK.dues(p -> x.pointOf(p, 1), 1, 2, 3, 4, 5, 6, 7, 8, 9, 1, 2, 3, BAD);
        CHECK.dues(p -> x.pointOf(p, 3), 2050, 5, 10, 20, 40, 80, 160, 320, 640, 1280, 2560, 1025, BAD);
    }

    public static void main(String[] args) {
        sheets();
        numbers();
        copies();
        loads();
        judges();
        shelves();
        takenAsPoints();
        takenAsRows();
        images();
        imageOfTwelve();
        CHECK.end(43, 52);
    }
}
