/** Promises 14 to 24, sentence by sentence where one names an edge: halves, crowns, kernels, packs. */
public final class EdgesOfHalvesTest {
    private static final int NONE = Check.NONE, BAD = Check.BAD;
    private static final int LOW = Check.LOW, HIGH = Check.HIGH;
    private static final Check CHECK = new Check("edges of halves");

    private static void halves() {
        CHECK.says(14, "what is 0 to 3");
        CHECK.dues(Check.path(3)::halves, 2, 5, 0, 2);
        CHECK.all(BAD, Check.path(3)::halves, -1, 4, LOW, HIGH);
        CHECK.says(14, "without POINTS, without LINES all have 0");
        CHECK.dues(new LinesTouched()::halves, 0, 0, 0, 0);
        CHECK.dues(Check.net(12)::halves, 0, 4095, 0, 0);
        CHECK.says(14, "the row that comes first: 0 ahead of 2 and of 1");
        CHECK.dues(Check.path(2)::halves, 2, 1, 0, 2);
        CHECK.dues(Check.path(4)::halves, 4, 5, 0, 10);
        CHECK.dues(Check.ring(4)::halves, 4, 5, 0, 10);
        CHECK.says(14, "2 ahead of 1, where 0 can't be");
        CHECK.dues(Check.flag()::halves, 4, 10, 0, 5);
        CHECK.says(14, "1 where nothing else can be");
        CHECK.dues(Check.triangles(4)::halves, 12, 0, 4095, 0);
        CHECK.dues(Check.whole(12)::halves, 12, 0, 4095, 0);
        CHECK.says(14, "all three in one row");
        CHECK.dues(Check.net(5, 0, 1, 1, 2, 0, 2, 3, 4)::halves, 5, 8, 7, 16);
        CHECK.says(14, "fewest together, though the first could have 0 otherwise");
        CHECK.dues(Check.star(12)::halves, 2, 4094, 0, 1);
        CHECK.says(14, "fewest together, though pairs must be found by way of the last POINT, of all twelve");
        CHECK.dues(Check.net(12, 0, 2, 0, 5, 1, 2, 1, 11, 3, 11)::halves, 6, 2011, 0, 2084);
        CHECK.dues(Check.net(12, 0, 3, 0, 5, 0, 10, 1, 2, 1, 7, 2, 6, 3, 5, 3, 9, 4, 9, 4, 11, 7, 11, 8, 10, 8, 11)
                ::halves, 12, 3682, 0, 413);
        CHECK.says(15, "0, 1, 2");
        CHECK.dues(Check.net(5, 0, 1, 1, 2, 0, 2, 3, 4)::half, 1, 1, 1, 0, 2, BAD);
        CHECK.says(15, "BAD: no POINT");
        CHECK.all(BAD, Check.path(3)::half, -1, 3, 12, LOW, HIGH);
        CHECK.all(BAD, Check.whole(12)::half, -1, 12, 32, LOW, HIGH);
        CHECK.due(new LinesTouched().half(0), BAD);
    }

    private static void mayHave() {
        CHECK.says(16, "bits 0 to 2: only 0, only 2, only 1");
        CHECK.dues(Check.path(3)::mayHave, 1, 4, 1);
        CHECK.dues(Check.triangles(1)::mayHave, 2, 2, 2);
        CHECK.says(16, "any of them");
        CHECK.dues(Check.path(2)::mayHave, 7, 7);
        CHECK.says(16, "two of them");
        CHECK.dues(Check.flag()::mayHave, 6, 7, 7, 3);
        CHECK.says(16, "a POINT without LINES has 0");
        CHECK.dues(Check.net(1)::mayHave, 1, BAD);
        CHECK.says(16, "BAD: no POINT");
        CHECK.all(BAD, Check.path(3)::mayHave, -1, 3, 12, LOW, HIGH);
        CHECK.all(BAD, Check.whole(12)::mayHave, -1, 12, 32, LOW, HIGH);
        CHECK.due(new LinesTouched().mayHave(0), BAD);
    }

    private static void mates() {
        CHECK.says(17, "either of a pair tells the other one");
        CHECK.dues(Check.flag()::mate, 3, 2, 1, 0);
        CHECK.says(17, "the least of THE HEAD has the least one");
        CHECK.dues(Check.net(5, 3, 0, 3, 1, 3, 2, 4, 0, 4, 1, 4, 2)::mate, 3, 4, NONE, 0, 1);
        CHECK.says(17, "not the least one, if the next one needs it");
        CHECK.dues(Check.net(5, 3, 0, 3, 1, 4, 0)::mate, 4, 3, NONE, 1, 0);
        CHECK.says(17, "NONE: of THE CROWN, but left over");
        CHECK.dues(Check.star(4)::mate, 1, 0, NONE, NONE);
        CHECK.due(Check.net(1).mate(0), NONE);
        CHECK.says(17, "NONE: it has 1");
        CHECK.dues(Check.triangles(1)::mate, NONE, NONE, NONE);
        CHECK.says(17, "BAD: no POINT, ahead of NONE");
        CHECK.all(BAD, Check.triangles(1)::mate, -1, 3, 12, LOW, HIGH);
        CHECK.all(BAD, Check.star(12)::mate, -1, 12, 32, LOW, HIGH);
        CHECK.due(new LinesTouched().mate(0), BAD);
    }

    private static void persists() {
        CHECK.says(18, "without POINTS, without LINES that of none");
        CHECK.due(new LinesTouched().persists(), 1);
        CHECK.due(Check.net(12).persists(), 1);
        CHECK.says(18, "no CROWN: all of them");
        CHECK.due(Check.triangles(1).persists(), 3);
        CHECK.due(Check.triangles(4).persists(), 81);
        CHECK.says(18, "one of several");
        CHECK.due(Check.path(2).persists(), 1);
        CHECK.due(Check.path(4).persists(), 1);
        CHECK.says(18, "some of several");
        CHECK.due(Check.net(5, 0, 1, 1, 2, 0, 2, 3, 4).persists(), 3);
    }

    private static void crowns() {
        CHECK.says(19, "one POINT at least");
        CHECK.due(Check.net(1).isCrown(0), 0);
        CHECK.due(new LinesTouched().isCrown(0), 0);
        CHECK.says(19, "its HEAD may be none");
        CHECK.dues(Check.net(2)::isCrown, 0, 1, 1, 1);
        CHECK.due(Check.net(12).isCrown(4095), 1);
        CHECK.says(19, "no LINE between two of it");
        CHECK.dues(Check.path(2)::isCrown, 0, 1, 1, 0);
        CHECK.due(Check.net(3, 0, 1).isCrown(7), 0);
        CHECK.says(19, "a HEAD of as many, of one more");
        CHECK.due(Check.net(4, 0, 2, 1, 3).isCrown(3), 1);
        CHECK.due(Check.net(5, 0, 2, 1, 3, 1, 4).isCrown(3), 0);
        CHECK.says(19, "no two have the same one");
        CHECK.due(Check.net(4, 0, 2, 0, 3).isCrown(3), 0);
        CHECK.due(Check.net(4, 0, 2, 0, 3, 1, 3).isCrown(3), 1);
        CHECK.says(19, "BAD: it has one that is no POINT");
        CHECK.due(new LinesTouched().isCrown(1), BAD);
        CHECK.all(BAD, Check.path(3)::isCrown, 8, 9, 4096, -1, LOW, HIGH);
        CHECK.all(BAD, Check.star(12)::isCrown, 4096, 8191, -1, LOW, LOW + 2, HIGH);
        CHECK.due(Check.star(12).isCrown(4094), 1);
        CHECK.says(20, "what is 0 to 2");
        CHECK.dues(Check.path(3)::crowns, 3, 5, 2);
        CHECK.all(BAD, Check.path(3)::crowns, -1, 3, LOW, HIGH);
        CHECK.says(20, "NONE of 1, 2: there is none; 0 of 0");
        CHECK.dues(Check.triangles(1)::crowns, 0, NONE, NONE);
        CHECK.dues(new LinesTouched()::crowns, 0, NONE, NONE);
        CHECK.says(20, "BAD is named ahead of NONE");
        CHECK.all(BAD, Check.triangles(1)::crowns, -1, 3);
        CHECK.says(20, "a HEAD that is empty is no refusal");
        CHECK.dues(Check.net(12)::crowns, 4095, 4095, 0);
        CHECK.dues(Check.net(1)::crowns, 1, 1, 0);
        CHECK.says(20, "of several with most POINTS the least number");
        CHECK.dues(Check.path(2)::crowns, 2, 1, 2);
        CHECK.says(20, "one CROWN of one POINT, the last");
        LinesTouched hung = Check.whole(5);
        for (int p = 1; p < 4; p++) hung.line(4, p, 0);
        CHECK.dues(hung::crowns, 1, 16, 1);
        CHECK.says(20, "most POINTS, though a lesser number has fewer");
        CHECK.dues(Check.star(12)::crowns, 2047, 4094, 1);
    }

    private static void kernelNumbers() {
        LinesTouched x = Check.path(3);
        CHECK.says(21, "k is 0 to 12");
        CHECK.all(BAD, k -> x.kernel(k, 0), -1, 13, LOW, HIGH);
        CHECK.due(x.kernel(0, 2), 19);
        CHECK.due(x.kernel(12, 2), 31);
        CHECK.says(21, "what is 0 to 4");
        CHECK.all(BAD, w -> x.kernel(1, w), -1, 5, LOW, HIGH);
        CHECK.dues(w -> x.kernel(2, w), 0, 2, 21, 2, 0);
        CHECK.says(21, "without POINTS no ROUND is done");
        CHECK.dues(w -> new LinesTouched().kernel(0, w), 0, 0, 20, 0, 0);
        CHECK.dues(w -> new LinesTouched().kernel(12, w), 0, 0, 32, 0, 0);
        CHECK.says(21, "without LINES a ROUND for each POINT");
        CHECK.dues(w -> Check.net(12).kernel(0, w), 0, 0, 20, 12, 0);
        CHECK.says(21, "ends when k is below 0, though a RULE could be done");
        CHECK.dues(w -> Check.path(2).kernel(0, w), 2, 1, 19, 1, 1);
        CHECK.dues(w -> Check.triangles(2).kernel(1, w), 60, 3, 19, 2, 1);
        CHECK.says(21, "goes on while k is just 0");
        CHECK.dues(w -> Check.star(4).kernel(1, w), 0, 1, 20, 4, 0);
        CHECK.says(21, "k may be far below 0 then");
        LinesTouched rings = Check.net(12, 0, 1, 1, 2, 2, 3, 3, 0, 4, 5, 5, 6, 6, 7, 7, 4, 8, 9, 9, 10, 10, 11, 11, 8);
        CHECK.dues(w -> rings.kernel(2, w), 0, 0xaaa, 16, 1, 1);
        CHECK.says(21, "REFUSED: more POINTS are left than twice k; as many are not");
        CHECK.dues(w -> Check.triangles(2).kernel(2, w), 63, 0, 22, 0, 1);
        CHECK.dues(w -> Check.triangles(2).kernel(3, w), 63, 0, 23, 0, 0);
        CHECK.dues(w -> Check.ring(5).kernel(2, w), 31, 0, 22, 0, 1);
        CHECK.dues(w -> Check.ring(5).kernel(3, w), 31, 0, 23, 0, 0);
    }

    private static void kernelRules() {
        CHECK.says(21, "RULE 1: just as many LINES as k are not more");
        CHECK.due(Check.star(4).round(2, 0, 0), 1);
        CHECK.due(Check.star(4).round(3, 0, 0), 2);
        CHECK.says(21, "RULE 0 is ahead of RULE 1, one POINT a ROUND, the least first");
        LinesTouched x = Check.net(5, 1, 3, 1, 4);
        CHECK.dues(i -> x.round(1, i, 0), 0, 0, 1, 0, 0, BAD);
        CHECK.dues(i -> x.round(1, i, 1), 1, 4, 2, 8, 16, BAD);
        CHECK.says(21, "RULE 1 is ahead of RULE 2, the least POINT first");
        LinesTouched two = Check.net(8, 1, 0, 1, 2, 1, 3, 5, 4, 5, 6, 5, 7);
        CHECK.dues(i -> two.round(2, i, 1), 2, 1, 4, 8, 32, 16, 64, 128, BAD);
        CHECK.dues(i -> two.round(2, i, 0), 1, 0, 0, 0, 1, 0, 0, 0, BAD);
        CHECK.says(21, "RULE 1: than k is by then, not than it was at first");
        LinesTouched less = Check.net(9, 0, 1, 0, 2, 0, 3, 0, 4, 5, 6, 5, 7, 5, 8);
        CHECK.dues(i -> less.round(3, i, 0), 1, 0, 0, 0, 0, 1, 0, 0, 0, BAD);
        CHECK.dues(i -> less.round(4, i, 0), 2, 0, 0, 0, 2, 0, 0, BAD);
        CHECK.says(21, "RULE 2: the other one is TAKEN, both go");
        CHECK.dues(w -> Check.path(2).round(1, 0, w), 2, 3, 2);
        CHECK.dues(w -> Check.path(2).kernel(1, w), 0, 2, 20, 1, 0);
        CHECK.says(21, "RULE 2 is ahead of RULE 3");
        CHECK.due(Check.path(4).round(2, 0, 0), 2);
        CHECK.says(21, "RULE 3: those with 0 go, those with 2 are TAKEN and go, those with 1 stay");
        LinesTouched both = Check.net(7, 0, 1, 1, 2, 2, 0, 3, 4, 4, 5, 5, 6, 6, 3);
        CHECK.dues(w -> both.round(4, 0, w), 3, 8 + 16 + 32 + 64, 16 + 64);
        CHECK.dues(w -> both.kernel(4, w), 7, 80, 22, 1, 0);
        CHECK.says(21, "RULE 3: THE HALVES of what is left, though the first POINTS have gone");
        LinesTouched behind = Check.net(5, 1, 2, 2, 3, 3, 4, 4, 1);
        CHECK.dues(i -> behind.round(2, i, 0), 0, 3, BAD);
        CHECK.dues(i -> behind.round(2, i, 1), 1, 30, BAD);
        CHECK.dues(i -> behind.round(2, i, 2), 0, 20, BAD);
        CHECK.says(21, "RULE 3 can't be done where none has 0");
        CHECK.due(Check.ring(5).kernel(3, 3), 0);
        CHECK.says(21, "LINES to such as are gone don't count");
        CHECK.dues(i -> Check.path(5).round(5, i, 1), 3, 12, 16, BAD);
        CHECK.dues(i -> Check.path(5).round(5, i, 2), 2, 8, 0, BAD);
    }

    private static void rounds() {
        LinesTouched x = Check.star(4);
        CHECK.says(22, "k is 0 to 12");
        CHECK.all(BAD, k -> x.round(k, 0, 0), -1, 13, LOW, HIGH);
        CHECK.due(x.round(0, 0, 0), 1);
        CHECK.due(x.round(12, 0, 0), 2);
        CHECK.says(22, "what is 0 to 2");
        CHECK.dues(w -> x.round(1, 3, w), 0, 8, 0, BAD);
        CHECK.all(BAD, w -> x.round(1, 3, w), -1, 3, LOW, HIGH);
        CHECK.says(22, "BAD: no such ROUND");
        CHECK.all(BAD, i -> x.round(1, i, 0), -1, 4, 12, LOW, HIGH);
        CHECK.due(x.round(0, 1, 0), BAD);
        CHECK.due(Check.ring(5).round(3, 0, 0), BAD);
        CHECK.due(new LinesTouched().round(0, 0, 0), BAD);
        CHECK.says(22, "the twelfth ROUND is the last there can be");
        CHECK.due(Check.net(12).round(0, 11, 1), 1 << 11);
        CHECK.due(Check.net(12).round(0, 12, 1), BAD);
        CHECK.says(22, "a ROUND of a greater k leaves nothing for one of a lesser");
        LinesTouched y = Check.net(12);
        y.round(12, 11, 0);
        y.line(0, 1, 1);
        y.line(0, 2, 1);
        CHECK.due(y.kernel(0, 3), 10);
        CHECK.due(y.round(0, 10, 0), BAD);
    }

    private static void packings() {
        CHECK.says(23, "what is 0 or 1");
        CHECK.dues(Check.path(4)::pack, 2, 2);
        CHECK.all(BAD, Check.path(4)::pack, -1, 2, LOW, HIGH);
        CHECK.says(23, "without POINTS, without LINES no set");
        CHECK.dues(new LinesTouched()::pack, 0, 0);
        CHECK.dues(Check.net(12)::pack, 0, 0);
        CHECK.says(23, "WORTH 1 of a two, 2 of a three");
        CHECK.dues(Check.path(2)::pack, 1, 1);
        CHECK.dues(Check.whole(3)::pack, 2, 1);
        CHECK.says(23, "a three of any POINTS");
        CHECK.dues(Check.net(12, 0, 5, 5, 11, 11, 0)::pack, 2, 1);
        CHECK.says(23, "the fewest sets: a three, not two twos");
        CHECK.dues(Check.whole(4)::pack, 2, 1);
        CHECK.dues(Check.whole(5)::pack, 3, 2);
        CHECK.says(23, "two twos, where a three would leave less");
        CHECK.dues(Check.net(6, 0, 1, 1, 2, 2, 0, 0, 3, 1, 4, 2, 5)::pack, 3, 3);
        CHECK.says(23, "no POINT in two sets");
        CHECK.dues(Check.star(12)::pack, 1, 1);
        LinesTouched star = Check.star(12);
        star.fewest(0);
        CHECK.dues(star::pack, 1, 1);
        CHECK.says(23, "all 12 POINTS");
        CHECK.dues(Check.whole(12)::pack, 8, 4);
        CHECK.dues(Check.path(12)::pack, 6, 6);
    }

    private static int packs(LinesTouched x, int sort, int... sets) {
        Check.row(x, 0, sort, sets);
        return x.packs(0);
    }

    private static void packsAsked() {
        LinesTouched x = Check.whole(12);
        x.line(0, 1, 0);
        CHECK.says(24, "BAD: no SHEET");
        CHECK.all(BAD, x::packs, -1, 4, LOW, HIGH);
        CHECK.says(24, "-11: a missing one");
        CHECK.dues(x::packs, -11, -11, -11, -11);
        CHECK.says(24, "no sets at all are worth 0");
        CHECK.due(packs(x, 0), 0);
        CHECK.says(24, "a set of two or of three, none of one, of four, of no POINT");
        CHECK.due(packs(x, 1, 6), 1);
        CHECK.due(packs(x, 1, 14), 2);
        CHECK.due(packs(x, 1, 2), -100);
        CHECK.due(packs(x, 1, 30), -100);
        CHECK.due(packs(x, 1, 0), -100);
        CHECK.due(packs(x, 1, 6, 0), -101);
        CHECK.says(24, "a LINE between any two of a set");
        CHECK.due(packs(x, 1, 3), -100);
        CHECK.due(packs(x, 1, 7), -100);
        CHECK.says(24, "a number that has one that is no POINT");
        CHECK.due(packs(x, 2, 1 << 11 | 1 << 10), 1);
        CHECK.due(packs(x, 2, 1 << 12 | 1 << 11), -100);
        CHECK.due(packs(x, 2, 1 << 31 | 1 << 11), -100);
        CHECK.due(packs(x, 2, -1), -100);
        CHECK.due(packs(Check.path(2), 2, 6), -100);
        CHECK.says(24, "bytes hold sets of POINTS 0 to 6 alone");
        CHECK.due(packs(x, 0, 96), 1);
        CHECK.due(packs(x, 0, 192), -100);
        CHECK.due(packs(x, 1, 192), 1);
        CHECK.says(24, "no POINT in two of the sets: the place of the second one");
        CHECK.due(packs(x, 1, 6, 12), -101);
        CHECK.due(packs(x, 1, 6, 24, 6), -102);
        CHECK.due(packs(x, 1, 0b110, 0b11000, 0b1100000, 0b110000000, 0b11000000000, 0b100000000001), 6);
        CHECK.due(packs(x, 1, 0b110, 0b11000, 0b1100000, 0b110000000, 0b11000000000, 0b100000000001, 6), -106);
    }

    public static void main(String[] args) {
        halves();
        mayHave();
        mates();
        persists();
        crowns();
        kernelNumbers();
        kernelRules();
        rounds();
        packings();
        packsAsked();
        CHECK.end(14, 24);
    }
}
