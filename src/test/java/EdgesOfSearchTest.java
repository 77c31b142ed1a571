/** Promises 25 to 33, sentence by sentence where one names an edge: the search, refusals, one more, one less. */
public final class EdgesOfSearchTest {
    private static final int NONE = Check.NONE, BAD = Check.BAD;
    private static final int LOW = Check.LOW, HIGH = Check.HIGH;
    private static final Check CHECK = new Check("edges of the search");

    private static void searches() {
        LinesTouched x = Check.triangles(1);
        CHECK.says(25, "k is 0 to 12");
        CHECK.all(BAD, k -> x.search(k, 0), -1, 13, LOW, HIGH);
        CHECK.due(x.search(0, 0), 0);
        CHECK.due(x.search(12, 0), 1);
        CHECK.says(25, "what is 0 to 4");
        CHECK.dues(w -> x.search(2, w), 1, 3, 5, 0, 2);
        CHECK.all(BAD, w -> x.search(2, w), -1, 5, LOW, HIGH);
        CHECK.says(25, "without POINTS, without LINES the first NODE finds, and finds nothing TAKEN");
        CHECK.dues(w -> new LinesTouched().search(0, w), 1, 1, 0, 0, 0);
        CHECK.dues(w -> Check.net(12).search(0, w), 1, 1, 0, 0, 0);
        CHECK.says(25, "LEAST HALVES above twice k are REFUSED, just twice k are not");
        CHECK.dues(w -> Check.path(2).search(0, w), 0, 1, NONE, 1, 0);
        CHECK.dues(w -> Check.path(2).search(1, w), 1, 2, 1, 0, 1);
        CHECK.dues(w -> x.search(1, w), 0, 1, NONE, 1, 0);
        CHECK.dues(w -> Check.ring(4).search(2, w), 1, 4, 5, 1, 2);
        CHECK.says(25, "NONE: it doesn't find");
        CHECK.due(Check.whole(12).search(10, 2), NONE);
        CHECK.due(Check.whole(12).search(11, 2) >= 0 ? 1 : 0, 1);
        CHECK.says(25, "a NODE whose k is below 0 is REFUSED, though its PART has no LINES");
        CHECK.dues(w -> Check.whole(4).search(2, w), 0, 3, NONE, 2, 1);
        CHECK.says(25, "ends when it finds: the second way isn't begun");
        CHECK.dues(w -> Check.star(4).search(1, w), 1, 2, 1, 0, 1);
        CHECK.says(25, "the first way is REFUSED, the second one finds");
        CHECK.dues(w -> Check.net(6, 0, 1, 0, 2, 1, 3, 1, 4, 2, 5, 0, 4).search(3, w), 1, 5, 7, 1, 3);
        CHECK.says(25, "many NODES: two of six POINTS with all their LINES");
        LinesTouched two = Check.twoSixes();
        CHECK.dues(w -> two.search(9, w), 0, 33, NONE, 17, 7);
    }

    private static void nodes() {
        LinesTouched x = Check.triangles(1);
        CHECK.says(26, "k is 0 to 12");
        CHECK.all(BAD, k -> x.node(k, 0, 0), -1, 13, LOW, HIGH);
        CHECK.due(x.node(0, 0, 3), 20);
        CHECK.due(x.node(12, 0, 3), 32);
        CHECK.says(26, "what is 0 to 4");
        CHECK.dues(w -> x.node(2, 0, w), 0, 7, 0, 22, 0);
        CHECK.all(BAD, w -> x.node(2, 0, w), -1, 5, LOW, HIGH);
        CHECK.says(26, "BAD: no such NODE");
        CHECK.dues(i -> x.node(2, i, 4), 0, 1, 2, BAD);
        CHECK.all(BAD, i -> x.node(2, i, 0), -1, 3, LOW, HIGH);
        CHECK.due(x.node(1, 1, 0), BAD);
        CHECK.says(26, "-1 it doesn't branch: REFUSED, or it finds");
        CHECK.due(x.node(1, 0, 0), -1);
        CHECK.due(x.node(2, 2, 0), -1);
        CHECK.due(new LinesTouched().node(0, 0, 0), -1);
        CHECK.says(26, "of several with most LINES the least");
        CHECK.dues(w -> Check.net(4, 2, 3, 1, 2, 0, 1).node(2, 0, w), 1, 15, 0, 22, 0);
        CHECK.says(26, "at even depths ONE WAY begins first, at odd ones THE OTHER WAY");
        CHECK.dues(w -> x.node(2, 1, w), 1, 6, 1, 21, 1);
        CHECK.dues(w -> x.node(2, 2, w), -1, 0, 5, 20, 2);
        LinesTouched four = Check.whole(4);
        CHECK.dues(i -> four.node(3, i, 2), 0, 1, 13, BAD);
        LinesTouched five = Check.whole(5);
        CHECK.dues(i -> five.node(3, i, 2), 0, 1, 29, 3, 30, BAD);
        CHECK.dues(i -> five.node(3, i, 4), 0, 1, 2, 2, 1, BAD);
        CHECK.dues(i -> five.node(3, i, 1), 31, 30, 0, 28, 0, BAD);
        CHECK.says(26, "k and 20 may be below 20");
        CHECK.dues(i -> five.node(3, i, 3), 23, 22, 19, 21, 19, BAD);
        CHECK.due(Check.whole(12).node(6, 2, 3), 15);
    }

    private static void proofs() {
        LinesTouched x = Check.whole(5);
        CHECK.says(27, "BAD: SHEET");
        CHECK.all(BAD, s -> x.prove(s, 3), -1, 4, LOW, HIGH);
        CHECK.says(27, "BAD: k, which is 0 to 12");
        CHECK.all(BAD, k -> x.prove(0, k), -1, 13, LOW, HIGH);
        CHECK.due(x.prove(0, 0), 1);
        CHECK.due(x.prove(0, 12), NONE);
        CHECK.says(27, "BAD is named ahead of NONE");
        CHECK.due(x.prove(4, 12), BAD);
        CHECK.says(27, "NONE: it finds, and the SHEET stays");
        CHECK.due(x.prove(0, 4), NONE);
        CHECK.due(x.item(0, 0), -1);
        CHECK.due(x.item(0, 1), -12);
        CHECK.due(x.prove(3, 4), NONE);
        CHECK.due(x.item(3, 0), -11);
        CHECK.due(new LinesTouched().prove(0, 0), NONE);
        CHECK.says(27, "for each NODE the POINT on which it branches, -1 if it doesn't");
        CHECK.due(x.prove(1, 3), 5);
        CHECK.dues(i -> x.item(1, i), 0, 1, -1, -1, -1, -12);
        CHECK.says(27, "a row of shorts, whatever it was, also missing");
        x.shelf(0, 1, 1);
        CHECK.due(x.taken(0, 11), 5);
        x.sheet(1, 0, 60);
        CHECK.due(x.prove(1, 2), 1);
        x.shelf(0, 1, 1);
        CHECK.due(x.taken(0, 11), 1);
        CHECK.due(x.write(1, 0, 32767), 1);
        CHECK.due(x.item(1, 0), 32767);
        CHECK.says(27, "the most NODES that were ever seen: two of six POINTS with all their LINES");
        LinesTouched two = Check.twoSixes();
        CHECK.due(two.prove(2, 9), 33);
        CHECK.due(two.item(2, 32), -1);
        CHECK.due(two.item(2, 33), -12);
        CHECK.due(two.proves(2, 9), 0);
    }

    private static int proves(LinesTouched x, int k, int... numbers) {
        Check.row(x, 0, 2, numbers);
        return x.proves(0, k);
    }

    private static void proofsRead() {
        LinesTouched x = Check.whole(4);
        CHECK.says(28, "BAD: SHEET");
        CHECK.all(BAD, s -> x.proves(s, 2), -1, 4, LOW, HIGH);
        CHECK.says(28, "BAD: k, which is 0 to 12, ahead of -11");
        CHECK.all(BAD, k -> x.proves(3, k), -1, 13, LOW, HIGH);
        CHECK.says(28, "-11: a missing one");
        CHECK.due(x.proves(3, 0), -11);
        CHECK.due(x.proves(3, 12), -11);
        CHECK.says(28, "an empty SHEET: the first isn't there");
        CHECK.due(proves(x, 2), 1);
        CHECK.due(proves(new LinesTouched(), 0), 1);
        CHECK.says(28, "-1: LEAST HALVES above twice k, not just twice");
        CHECK.due(proves(x, 1, -1), 0);
        CHECK.due(proves(x, 2, -1), 1);
        CHECK.due(proves(Check.triangles(1), 1, -1), 0);
        CHECK.due(proves(new LinesTouched(), 0, -1), 1);
        CHECK.says(28, "one is not there");
        CHECK.due(proves(x, 2, 0), 2);
        CHECK.due(proves(x, 2, 0, -1), 3);
        CHECK.due(proves(x, 2, 0, -1, -1), 0);
        CHECK.says(28, "-1 that isn't right in the first branch, though it is in the second");
        CHECK.due(proves(Check.star(3), 1, 0, -1), 2);
        CHECK.due(proves(Check.star(3), 1, 0, -1, -1), 2);
        CHECK.says(28, "k is 1 less in ONE WAY, at even depths and at odd ones");
        CHECK.due(proves(Check.triangles(1), 2, 0, -1, -1), 2);
        CHECK.due(proves(Check.net(8, 0, 1, 2, 3, 2, 4, 2, 5, 6, 7), 3, 0, 2, -1, -1, -1), 4);
        CHECK.says(28, "k is less by as many as are TAKEN in THE OTHER WAY");
        CHECK.due(proves(Check.star(3), 2, 0, 1), 2);
        CHECK.due(proves(Check.net(5, 0, 1, 0, 2, 3, 4), 1, 0, -1, -1), 0);
        CHECK.due(proves(Check.net(7, 0, 1, 0, 2, 3, 4, 4, 5, 5, 3), 3, 0, 3, -1, -1, -1), 3);
        CHECK.says(28, "one is too many");
        CHECK.due(proves(x, 2, 0, -1, -1, -1), 4);
        CHECK.due(proves(x, 1, -1, 0), 2);
        CHECK.says(28, "a POINT though the PART may be REFUSED");
        CHECK.due(proves(x, 1, 3, -1, -1), 0);
        CHECK.due(proves(x, 2, 0, 3, -1, -1, -1), 0);
        CHECK.says(28, "not one that has gone");
        CHECK.due(proves(x, 2, 0, 0, -1, -1, -1), 2);
        CHECK.due(proves(x, 2, 0, -1, 0, -1, -1), 3);
        CHECK.due(proves(x, 2, 0, -1, 1, -1, -1), 3);
        CHECK.says(28, "not one without a LINE in the PART");
        CHECK.due(proves(Check.net(3, 0, 1), 0, 2), 1);
        CHECK.due(proves(Check.star(3), 0, 0, 1), 2);
        CHECK.due(proves(Check.net(5, 0, 1, 2, 3, 3, 4), 0, 0, 2, 4, -1, -1, -1), 3);
        CHECK.says(28, "nothing else is right: no POINT, below -1");
        CHECK.all(1, p -> proves(x, 2, p, -1, -1), 4, 12, 31, 32, -2, LOW, HIGH);
        CHECK.all(1, p -> proves(Check.whole(12), 6, p, -1, -1), 12, 32, 43, -2);
        CHECK.due(proves(Check.whole(12), 6, 11, -1, -1), 0);
        CHECK.says(28, "both branches in SEARCH's order by depth");
        LinesTouched star = Check.star(4);
        star.line(1, 2, 1);
        CHECK.due(proves(star, 1, 3, 0, 1, -1, -1, -1, -1), 3);
        CHECK.due(proves(star, 1, 3, 0, -1, 1, -1, -1, -1), 0);
        CHECK.says(28, "depth is 1 more in THE OTHER WAY, too: the order behind it at depth 1, at depth 2");
        LinesTouched line = Check.net(5, 0, 1, 2, 3, 3, 4, 4, 2);
        CHECK.due(proves(line, 0, 0, -1, 2, -1, 3, -1, -1), 0);
        CHECK.due(proves(line, 0, 0, -1, 2, 3, -1, -1, -1), 4);
        LinesTouched lines = Check.net(7, 0, 1, 2, 3, 4, 5, 5, 6, 6, 4);
        CHECK.due(proves(lines, 0, 0, 2, 4, 5, -1, -1, -1, -1, -1), 0);
        CHECK.due(proves(lines, 0, 0, 2, 4, -1, 5, -1, -1, -1, -1), 5);
        CHECK.says(28, "bytes and shorts are read as well");
        Check.row(x, 1, 0, 0, 255, 511);
        CHECK.due(x.proves(1, 2), 0);
        Check.row(x, 1, 1, 0, 65535, -1);
        CHECK.due(x.proves(1, 2), 0);
        CHECK.says(28, "a SHEET of 60, of which most are too many");
        x.sheet(1, 1, 60);
        x.write(1, 0, 3);
        x.write(1, 1, -1);
        x.write(1, 2, -1);
        CHECK.due(x.proves(1, 2), 4);
    }

    private static void oneLess() {
        CHECK.says(29, "without a POINT that is in all of them, in none of them, in some");
        CHECK.dues(Check.path(3)::without, 1, 0, 1);
        CHECK.dues(Check.path(4)::without, 1, 1, 1, 1);
        CHECK.dues(Check.whole(12)::without, 10);
        CHECK.says(29, "the POINT with most LINES need not be in a fewest COVER");
        CHECK.due(Check.net(6, 1, 2, 2, 0, 0, 3, 3, 4).without(5), 2);
        CHECK.says(29, "the only POINT, one without LINES");
        CHECK.due(Check.net(1).without(0), 0);
        CHECK.due(Check.net(3, 0, 1).without(2), 1);
        CHECK.says(29, "BAD: no POINT");
        CHECK.all(BAD, Check.path(3)::without, -1, 3, 12, LOW, HIGH);
        CHECK.all(BAD, Check.whole(12)::without, -1, 12, 32, LOW, HIGH);
        CHECK.due(new LinesTouched().without(0), BAD);
        CHECK.says(30, "what is 0 or 1");
        CHECK.dues(Check.triangles(1)::cut, 1, 3);
        CHECK.all(BAD, Check.triangles(1)::cut, -1, 2, LOW, HIGH);
        CHECK.says(30, "NONE: there is no such LINE; 0 of them");
        CHECK.dues(Check.path(3)::cut, NONE, 0);
        CHECK.dues(Check.net(12)::cut, NONE, 0);
        CHECK.dues(new LinesTouched()::cut, NONE, 0);
        CHECK.says(30, "12 times its lesser POINT, and the greater: the last LINE there can be");
        CHECK.dues(Check.net(12, 11, 10)::cut, 131, 1);
        CHECK.says(30, "the first of several, in the order of LINES");
        CHECK.dues(Check.net(6, 5, 4, 3, 1, 2, 0)::cut, 2, 3);
        CHECK.says(30, "some LINES alone");
        CHECK.dues(Check.path(4)::cut, 1, 2);
        CHECK.dues(Check.whole(12)::cut, 1, 66);
    }

    private static void oneMore() {
        CHECK.says(31, "what is 0 or 1");
        CHECK.dues(Check.path(3)::joins, 2, 1);
        CHECK.all(BAD, Check.path(3)::joins, -1, 2, LOW, HIGH);
        CHECK.says(31, "NONE: there are no such two; 0 of them");
        CHECK.dues(new LinesTouched()::joins, NONE, 0);
        CHECK.dues(Check.net(1)::joins, NONE, 0);
        CHECK.dues(Check.triangles(1)::joins, NONE, 0);
        CHECK.dues(Check.net(4, 0, 1, 2, 3)::joins, NONE, 0);
        CHECK.dues(Check.net(3, 0, 1)::joins, NONE, 0);
        CHECK.says(31, "any two, where there are no LINES");
        CHECK.dues(Check.net(2)::joins, 1, 1);
        CHECK.dues(Check.net(12)::joins, 1, 66);
        CHECK.says(31, "told likewise: the last two there can be");
        CHECK.dues(Check.net(12, 0, 1, 2, 3, 4, 5, 6, 7, 8, 9)::joins, 131, 1);
        CHECK.says(31, "the first two in the order of LINES");
        CHECK.dues(Check.net(6, 3, 0, 3, 2, 3, 4, 3, 5)::joins, 1, 10);
        CHECK.says(31, "all LINES are there");
        CHECK.dues(Check.whole(12)::joins, NONE, 0);
    }

    private static void pays() {
        LinesTouched x = Check.weighing(3, 5, 4);
        x.line(1, 2, 1);
        x.line(0, 1, 1);
        CHECK.says(32, "what is 0 to 2; in the order of LINES, not in that in which they came");
        CHECK.dues(x::pays, 5, 3, 8);
        CHECK.all(BAD, x::pays, -1, 3, LOW, HIGH);
        CHECK.says(32, "without POINTS, without LINES nothing is paid, none is SPENT");
        CHECK.dues(new LinesTouched()::pays, 0, 0, 0);
        CHECK.dues(Check.net(12)::pays, 0, 0, 0);
        CHECK.says(32, "POINTS between the two of a LINE pay nothing");
        CHECK.dues(Check.net(4, 0, 3)::pays, 1, 9, 2);
        CHECK.says(32, "both ends are SPENT, if they have as much");
        CHECK.dues(Check.path(2)::pays, 1, 3, 2);
        CHECK.says(32, "as much as both have left, not as much as one had");
        LinesTouched y = Check.weighing(2, 9, 9);
        y.line(0, 1, 1);
        y.line(0, 2, 1);
        y.line(1, 2, 1);
        CHECK.dues(y::pays, 9, 3, 11);
        CHECK.says(32, "COST, not WEIGHT");
        y.change(0, 0, 2);
        CHECK.dues(y::pays, 9, 3, 13);
        CHECK.says(33, "either one may be told first");
        CHECK.due(x.paid(0, 1), 3);
        CHECK.due(x.paid(1, 0), 3);
        CHECK.due(x.paid(2, 1), 2);
        CHECK.says(33, "a LINE may pay nothing");
        CHECK.due(y.paid(0, 2), 0);
        CHECK.due(y.paid(1, 2), 5);
        y.change(0, 0, 4);
        y.change(0, 1, 9);
        CHECK.due(y.paid(2, 1), 0);
        CHECK.says(33, "NONE: there is no LINE");
        CHECK.due(x.paid(0, 2), NONE);
        CHECK.due(x.paid(2, 0), NONE);
        CHECK.says(33, "BAD: one and the same POINT, ahead of NONE");
        CHECK.all(BAD, p -> x.paid(p, p), 0, 1, 2);
        CHECK.says(33, "BAD: no POINT");
        CHECK.all(BAD, p -> x.paid(p, 0), -1, 3, 12, LOW, HIGH);
        CHECK.all(BAD, p -> x.paid(0, p), -1, 3, 12, LOW, HIGH);
        CHECK.says(33, "the last LINE of 66");
        LinesTouched all = Check.whole(12);
        CHECK.due(all.paid(0, 1), 1);
        CHECK.due(all.paid(0, 2), 0);
        CHECK.due(all.paid(2, 3), 1);
        CHECK.due(all.paid(11, 10), 1);
    }

    public static void main(String[] args) {
        searches();
        nodes();
        proofs();
        proofsRead();
        oneLess();
        oneMore();
        pays();
        CHECK.end(25, 33);
    }
}
