import java.math.BigInteger;
import java.util.ArrayList;
import java.util.HashMap;
import java.util.List;
import java.util.Map;
import java.util.TreeMap;

/** The document again, as plainly and as slowly as its words say it: what LinesTouched is compared with. */
final class PlainModel {
    static final int NONE = -1, BAD = -2, STATE = -3, FULL = -4;

    private static final class Spot {
        int kind;
        int weight;

        Spot(int kind, int weight) {
            this.kind = kind;
            this.weight = weight;
        }
    }

    private static final class Branch {
        int number;
        int kind = 0;
        int weight = 1;
        Branch in = null;
        final List<Branch> sons = new ArrayList<>();
    }

    private static final class Fault extends Exception {
        private static final long serialVersionUID = 1L;
        final int place;

        Fault(int place) {
            this.place = place;
        }
    }

    private record Round(int rule, int goes, int takes) {}

    private record Node(int branch, int left, int taken, int k, int depth) {}

    private record Row(int sort, int[] numbers) {}

    private List<Spot> spots = new ArrayList<>();
    private boolean[][] lines = new boolean[12][12];
    private int z = 1;
    private List<Integer> tape = new ArrayList<>();
    private List<Branch> tree = new ArrayList<>();
    private final Row[] sheets = new Row[4];
    private final Object[] shelves = new Object[4];
    private List<Spot> keptSpots = null;
    private boolean[][] keptLines = null;
    private int keptZ = 0;
    private final Map<Integer, int[]> halvesOf = new HashMap<>();

    // ---- words of the document

    private int n() {
        return spots.size();
    }

    private boolean isPoint(int p) {
        return p >= 0 && p < n();
    }

    private boolean isSet(int set) {
        return set >= 0 && set < 1 << n();
    }

    private static boolean in(int set, int p) {
        return (set & 1 << p) != 0;
    }

    private int next(int p, int part) {
        int set = 0;
        for (int q = 0; q < n(); q++) if (in(part, q) && lines[p][q]) set |= 1 << q;
        return set;
    }

    private int all() {
        return (1 << n()) - 1;
    }

    private static int size(int set) {
        return Integer.bitCount(set);
    }

    private static int cost(int kind, int weight, int many, int number) {
        switch (kind) {
            case 0: return weight;
            case 1: return cost(0, weight, many, number) + many;
            case 2: return 2 * cost(0, weight, many, number);
            case 3: return Math.max(1, cost(1, weight, many, number) - 2);
            case 4: return cost(2, weight, many, number) + number;
            default: return cost(3, weight, many, number) / 2 + 1;
        }
    }

    private int cost(int p) {
        return cost(spots.get(p).kind, spots.get(p).weight, size(next(p, all())), p);
    }

    private int costOfSet(int set) {
        int sum = 0;
        for (int p = 0; p < n(); p++) if (in(set, p)) sum += cost(p);
        return sum;
    }

    private boolean cover(int set, int part) {
        for (int a = 0; a < n(); a++)
            for (int b = a + 1; b < n(); b++)
                if (in(part, a) && in(part, b) && lines[a][b] && !in(set, a) && !in(set, b)) return false;
        return true;
    }

    private boolean bareCover(int set) {
        if (!cover(set, all())) return false;
        for (int p = 0; p < n(); p++) if (in(set, p) && cover(set & ~(1 << p), all())) return false;
        return true;
    }

    private int fewestOf(int part) {
        int best = 99;
        for (int set = 0; set <= all(); set++) if (size(set) < best && cover(set, part)) best = size(set);
        return best;
    }

    private List<Integer> fewestCovers() {
        List<Integer> found = new ArrayList<>();
        int best = fewestOf(all());
        for (int set = 0; set <= all(); set++) if (size(set) == best && cover(set, all())) found.add(set);
        return found;
    }

    // a row: place 0 the sum, then what each point has; places 13.. what each may have
    private int[] theHalves(int part) {
        int[] known = halvesOf.get(part);
        if (known == null) {
            known = new int[26];
            known[0] = 999;
            fill(part, 0, 0, new int[12], known);
            halvesOf.put(part, known);
        }
        return known;
    }

    private void fill(int part, int p, int sum, int[] row, int[] best) {
        if (sum > best[0]) return;
        if (p == n()) {
            if (sum < best[0]) {
                best[0] = sum;
                for (int q = 0; q < n(); q++) {
                    best[1 + q] = in(part, q) ? row[q] : -1;
                    best[13 + q] = 0;
                }
            }
            for (int q = 0; q < n(); q++) if (in(part, q)) best[13 + q] |= 1 << row[q];
            return;
        }
        if (!in(part, p)) {
            fill(part, p + 1, sum, row, best);
            return;
        }
        for (int v : new int[] {0, 2, 1}) {
            boolean fits = true;
            for (int q = 0; q < p; q++) if (in(part, q) && lines[q][p] && row[q] + v < 2) fits = false;
            if (!fits) continue;
            row[p] = v;
            fill(part, p + 1, sum + v, row, best);
        }
    }

    private int with(int part, int v) {
        int[] row = theHalves(part);
        int set = 0;
        for (int p = 0; p < n(); p++) if (in(part, p) && row[1 + p] == v) set |= 1 << p;
        return set;
    }

    /** First ways come first: for the heads in order the least ones. */
    private boolean pair(int head, int into, int p, int[] pairs) {
        if (p == n()) return true;
        if (!in(head, p)) return pair(head, into, p + 1, pairs);
        for (int q = 0; q < n(); q++) {
            if (!in(into, q) || !lines[p][q]) continue;
            pairs[p] = q;
            if (pair(head, into & ~(1 << q), p + 1, pairs)) return true;
        }
        return false;
    }

    private int headOf(int set) {
        int head = 0;
        for (int p = 0; p < n(); p++) if (in(set, p)) head |= next(p, all());
        return head;
    }

    private boolean crown(int set) {
        int head = headOf(set);
        return set != 0 && (head & set) == 0 && pair(head, set, 0, new int[12]);
    }

    private List<Round> rounds(int k, int[] end) {
        List<Round> found = new ArrayList<>();
        int left = all();
        int taken = 0;
        while (k >= 0) {
            Round r = nextRound(left, k);
            if (r == null) break;
            found.add(r);
            left &= ~r.goes;
            taken |= r.takes;
            k -= size(r.takes);
        }
        end[0] = left;
        end[1] = taken;
        end[2] = k;
        return found;
    }

    private Round nextRound(int left, int k) {
        for (int p = 0; p < n(); p++)
            if (in(left, p) && next(p, left) == 0) return new Round(0, 1 << p, 0);
        for (int p = 0; p < n(); p++)
            if (in(left, p) && size(next(p, left)) > k) return new Round(1, 1 << p, 1 << p);
        for (int p = 0; p < n(); p++)
            if (in(left, p) && size(next(p, left)) == 1)
                return new Round(2, 1 << p | next(p, left), next(p, left));
        int zeros = with(left, 0);
        int twos = with(left, 2);
        return zeros == 0 ? null : new Round(3, zeros | twos, twos);
    }

    private boolean packSet(int set) {
        if (!isSet(set) || size(set) < 2 || size(set) > 3) return false;
        for (int a = 0; a < n(); a++)
            for (int b = a + 1; b < n(); b++)
                if (in(set, a) && in(set, b) && !lines[a][b]) return false;
        return true;
    }

    private int[] bestPack(int open, Map<Integer, int[]> known, List<Integer> sets) {
        int[] best = known.get(open);
        if (best != null) return best;
        best = new int[] {0, 0};
        for (int set : sets) {
            if ((set & ~open) != 0) continue;
            int[] rest = bestPack(open & ~set, known, sets);
            int worth = rest[0] + size(set) - 1;
            int many = rest[1] + 1;
            if (worth > best[0] || worth == best[0] && many < best[1]) best = new int[] {worth, many};
        }
        known.put(open, best);
        return best;
    }

    private static final class Found {
        List<Node> nodes = new ArrayList<>();
        int what = -1;
        int refused = 0;
    }

    private void search(int left, int taken, int k, int depth, Found found) {
        if (found.what >= 0) return;
        int most = 0;
        int at = -1;
        for (int p = 0; p < n(); p++) {
            if (in(left, p) && size(next(p, left)) > most) {
                most = size(next(p, left));
                at = p;
            }
        }
        if (theHalves(left)[0] > 2 * k) {
            found.refused++;
            found.nodes.add(new Node(-1, left, taken, k, depth));
        } else if (at < 0) {
            found.what = taken;
            found.nodes.add(new Node(-1, left, taken, k, depth));
        } else {
            found.nodes.add(new Node(at, left, taken, k, depth));
            for (int way = 0; way < 2; way++) {
                int takes = (way + depth) % 2 == 0 ? 1 << at : next(at, left);
                search(left & ~takes & ~(1 << at), taken | takes, k - size(takes), depth + 1, found);
            }
        }
    }

    private Found search(int k) {
        Found found = new Found();
        search(all(), 0, k, 0, found);
        return found;
    }

    private int read(int[] row, int place, int part, int k, int depth) throws Fault {
        if (place >= row.length) throw new Fault(place);
        int told = row[place];
        if (told == -1) {
            if (theHalves(part)[0] > 2 * k) return place + 1;
            throw new Fault(place);
        }
        if (!isPoint(told) || !in(part, told) || next(told, part) == 0) throw new Fault(place);
        int behind = place + 1;
        for (int way = 0; way < 2; way++) {
            int takes = (way + depth) % 2 == 0 ? 1 << told : next(told, part);
            behind = read(row, behind, part & ~takes & ~(1 << told), k - size(takes), depth + 1);
        }
        return behind;
    }

    private int[] purses(int a, int b, int[] pays) {
        int[] left = new int[12];
        for (int p = 0; p < n(); p++) left[p] = cost(p);
        for (int p = 0; p < n(); p++) {
            for (int q = p + 1; q < n(); q++) {
                if (!lines[p][q]) continue;
                int sum = Math.min(left[p], left[q]);
                left[p] -= sum;
                left[q] -= sum;
                pays[0] += sum;
                if (p == a && q == b) pays[1] = sum;
            }
        }
        return left;
    }

    private void changed() {
        halvesOf.clear();
    }

    // ---- the net

    int point(int kind, int weight) {
        if (kind < 0 || kind > 5 || weight < 1 || weight > 9) return BAD;
        if (n() == 12) return FULL;
        spots.add(new Spot(kind, weight));
        changed();
        return n() - 1;
    }

    int line(int a, int b, int on) {
        if (!isPoint(a) || !isPoint(b) || a == b || on != 0 && on != 1) return BAD;
        int was = lines[a][b] ? 1 : 0;
        lines[a][b] = on == 1;
        lines[b][a] = on == 1;
        changed();
        return was;
    }

    int pointOf(int p, int what) {
        if (!isPoint(p) || what < 0 || what > 4) return BAD;
        Spot s = spots.get(p);
        return new int[] {s.kind, s.weight, cost(p), next(p, all()), size(next(p, all()))}[what];
    }

    int change(int p, int what, int v) {
        if (!isPoint(p) || what != 0 && what != 1) return BAD;
        if (what == 0 && (v < 0 || v > 5) || what == 1 && (v < 1 || v > 9)) return BAD;
        Spot s = spots.get(p);
        int was = what == 0 ? s.kind : s.weight;
        if (what == 0) s.kind = v;
        else s.weight = v;
        return was;
    }

    int count(int what) {
        if (what < 0 || what > 5) return BAD;
        int many = 0;
        int lonely = 0;
        for (int p = 0; p < n(); p++) {
            many += size(next(p, all()));
            if (next(p, all()) == 0) lonely++;
        }
        return new int[] {n(), many / 2, lonely, tape.size(), z, tree.size()}[what];
    }

    int isCover(int set) {
        if (!isSet(set)) return BAD;
        return bareCover(set) ? 2 : cover(set, all()) ? 1 : 0;
    }

    int costOf(int set) {
        return isSet(set) ? costOfSet(set) : BAD;
    }

    // ---- covers

    int fewest(int what) {
        if (what < 0 || what > 4) return BAD;
        List<Integer> sets = fewestCovers();
        int inAll = all();
        int inNone = all();
        for (int set : sets) {
            inAll &= set;
            inNone &= ~set;
        }
        return new int[] {size(sets.get(0)), sets.get(0), sets.size(), inAll, inNone}[what];
    }

    int dear(int what) {
        if (what < 0 || what > 2) return BAD;
        TreeMap<Integer, List<Integer>> byCost = new TreeMap<>();
        for (int set = 0; set <= all(); set++)
            if (cover(set, all())) byCost.computeIfAbsent(costOfSet(set), c -> new ArrayList<>()).add(set);
        List<Integer> sets = byCost.firstEntry().getValue();
        return new int[] {byCost.firstKey(), sets.get(0), sets.size()}[what];
    }

    int sized(int many) {
        if (many < 0 || many > 12) return BAD;
        int found = 0;
        for (int set = 0; set <= all(); set++) if (size(set) == many && cover(set, all())) found++;
        return found;
    }

    int bare(int what) {
        if (what < 0 || what > 2) return BAD;
        int found = 0;
        int greatest = -1;
        for (int set = 0; set <= all(); set++) {
            if (!bareCover(set)) continue;
            found++;
            if (greatest < 0 || size(set) > size(greatest)) greatest = set;
        }
        return new int[] {found, size(greatest), greatest}[what];
    }

    long share(int part) {
        if (part != 0 && part != 1) return BAD;
        long found = 0;
        for (int set = 0; set <= all(); set++) if (cover(set, all())) found++;
        BigInteger by = BigInteger.valueOf(found).gcd(BigInteger.valueOf(1L << n()));
        return (part == 0 ? found : 1L << n()) / by.longValue();
    }

    // ---- halves, crowns

    int halves(int what) {
        if (what < 0 || what > 3) return BAD;
        return what == 0 ? theHalves(all())[0] : with(all(), what - 1);
    }

    int half(int p) {
        return isPoint(p) ? theHalves(all())[1 + p] : BAD;
    }

    int mayHave(int p) {
        return isPoint(p) ? theHalves(all())[13 + p] : BAD;
    }

    int mate(int p) {
        if (!isPoint(p)) return BAD;
        int head = with(all(), 2);
        int[] pairs = new int[12];
        if (!pair(head, with(all(), 0), 0, pairs)) throw new IllegalStateException("the head can't be paired");
        if (in(head, p)) return pairs[p];
        for (int h = 0; h < n(); h++) if (in(head, h) && pairs[h] == p) return h;
        return NONE;
    }

    int persists() {
        int many = 0;
        for (int set : fewestCovers())
            if ((set & with(all(), 2)) == with(all(), 2) && (set & with(all(), 0)) == 0) many++;
        return many;
    }

    int isCrown(int set) {
        return !isSet(set) ? BAD : crown(set) ? 1 : 0;
    }

    int crowns(int what) {
        if (what < 0 || what > 2) return BAD;
        int many = 0;
        int best = 0;
        for (int set = 0; set <= all(); set++) {
            if (!crown(set)) continue;
            many++;
            if (size(set) > size(best)) best = set;
        }
        if (what == 0) return many;
        if (many == 0) return NONE;
        return what == 1 ? best : headOf(best);
    }

    // ---- kernels, packs

    int kernel(int k, int what) {
        if (k < 0 || k > 12 || what < 0 || what > 4) return BAD;
        int[] end = new int[3];
        int many = rounds(k, end).size();
        int refused = end[2] < 0 || size(end[0]) > 2 * end[2] ? 1 : 0;
        return new int[] {end[0], end[1], end[2] + 20, many, refused}[what];
    }

    int round(int k, int i, int what) {
        if (k < 0 || k > 12 || what < 0 || what > 2) return BAD;
        List<Round> found = rounds(k, new int[3]);
        if (i < 0 || i >= found.size()) return BAD;
        Round r = found.get(i);
        return new int[] {r.rule, r.goes, r.takes}[what];
    }

    int pack(int what) {
        if (what != 0 && what != 1) return BAD;
        List<Integer> sets = new ArrayList<>();
        for (int set = 0; set <= all(); set++) if (packSet(set)) sets.add(set);
        return bestPack(all(), new HashMap<>(), sets)[what];
    }

    int packs(int s) {
        if (s < 0 || s > 3) return BAD;
        if (sheets[s] == null) return -11;
        int used = 0;
        int worth = 0;
        for (int i = 0; i < sheets[s].numbers.length; i++) {
            int set = sheets[s].numbers[i];
            if (!packSet(set) || (set & used) != 0) return -100 - i;
            used |= set;
            worth += size(set) == 2 ? 1 : 2;
        }
        return worth;
    }

    // ---- the search, refusals

    int search(int k, int what) {
        if (k < 0 || k > 12 || what < 0 || what > 4) return BAD;
        Found found = search(k);
        int deepest = 0;
        for (Node node : found.nodes) deepest = Math.max(deepest, node.depth);
        int finds = found.what >= 0 ? 1 : 0;
        return new int[] {finds, found.nodes.size(), found.what, found.refused, deepest}[what];
    }

    int node(int k, int i, int what) {
        if (k < 0 || k > 12 || what < 0 || what > 4) return BAD;
        List<Node> nodes = search(k).nodes;
        if (i < 0 || i >= nodes.size()) return BAD;
        Node node = nodes.get(i);
        return new int[] {node.branch, node.left, node.taken, node.k + 20, node.depth}[what];
    }

    int prove(int s, int k) {
        if (s < 0 || s > 3 || k < 0 || k > 12) return BAD;
        Found found = search(k);
        if (found.what >= 0) return NONE;
        if (found.nodes.size() > 60) return FULL;
        int[] row = new int[found.nodes.size()];
        for (int i = 0; i < row.length; i++) row[i] = found.nodes.get(i).branch;
        sheets[s] = new Row(1, row);
        return row.length;
    }

    int proves(int s, int k) {
        if (s < 0 || s > 3 || k < 0 || k > 12) return BAD;
        if (sheets[s] == null) return -11;
        try {
            int behind = read(sheets[s].numbers, 0, all(), k, 0);
            return behind == sheets[s].numbers.length ? 0 : 1 + behind;
        } catch (Fault f) {
            return 1 + f.place;
        }
    }

    // ---- one more, one less

    int without(int p) {
        return isPoint(p) ? fewestOf(all() & ~(1 << p)) : BAD;
    }

    private int twos(int what, boolean on) {
        int was = fewestOf(all());
        int first = NONE;
        int many = 0;
        for (int a = 0; a < n(); a++) {
            for (int b = a + 1; b < n(); b++) {
                if (lines[a][b] != on) continue;
                lines[a][b] = !on;
                int now = fewestOf(all());
                lines[a][b] = on;
                if (on ? now >= was : now <= was) continue;
                if (many == 0) first = 12 * a + b;
                many++;
            }
        }
        return what == 0 ? first : many;
    }

    int cut(int what) {
        return what == 0 || what == 1 ? twos(what, true) : BAD;
    }

    int joins(int what) {
        return what == 0 || what == 1 ? twos(what, false) : BAD;
    }

    int pays(int what) {
        if (what < 0 || what > 2) return BAD;
        int[] pays = new int[2];
        int[] left = purses(-1, -1, pays);
        int spent = 0;
        for (int p = 0; p < n(); p++) if (left[p] == 0) spent |= 1 << p;
        return new int[] {pays[0], spent, costOfSet(spent)}[what];
    }

    int paid(int a, int b) {
        if (!isPoint(a) || !isPoint(b) || a == b) return BAD;
        if (!lines[a][b]) return NONE;
        int[] pays = new int[2];
        purses(Math.min(a, b), Math.max(a, b), pays);
        return pays[1];
    }

    // ---- the tree

    int feed(int bytes, int many) {
        if (many < 1 || many > 4) return BAD;
        if (tape.size() + many > 200) return FULL;
        byte[] four = {(byte) (bytes >> 24), (byte) (bytes >> 16), (byte) (bytes >> 8), (byte) bytes};
        for (int i = 4 - many; i < 4; i++) tape.add(four[i] & 255);
        return tape.size();
    }

    int wipe() {
        int was = tape.size();
        tape.clear();
        return was;
    }

    private record Token(char sort, String text, int place) {}

    private List<Token> tokens() {
        StringBuilder all = new StringBuilder();
        for (int b : tape) all.append((char) b);
        java.util.regex.Matcher m = java.util.regex.Pattern.compile("[a-z]+|[0-9]+|[^ ]",
                java.util.regex.Pattern.DOTALL).matcher(all);
        List<Token> found = new ArrayList<>();
        while (m.find()) {
            char c = m.group().charAt(0);
            char sort = c >= 'a' && c <= 'z' ? 'w' : c >= '0' && c <= '9' ? 'n' : c == '(' || c == ')' ? c : '?';
            found.add(new Token(sort, m.group(), m.start()));
        }
        found.add(new Token('$', "", tape.size()));
        return found;
    }

    private int parse(List<Token> tokens, int at, Branch in, int open, List<Branch> out) throws Fault {
        Token t = tokens.get(at);
        if (t.sort != '(' || open == 20 || out.size() == 60) throw new Fault(t.place);
        Branch branch = new Branch();
        branch.number = out.size();
        branch.in = in;
        if (in != null) in.sons.add(branch);
        out.add(branch);
        at++;
        List<String> words = List.of("point", "toll", "club", "keeper", "guild", "warden");
        if (tokens.get(at).sort == 'w') {
            branch.kind = words.indexOf(tokens.get(at).text);
            if (branch.kind < 0) throw new Fault(tokens.get(at).place);
            at++;
        }
        if (tokens.get(at).sort == 'n') {
            if (!tokens.get(at).text.matches("[1-9]")) throw new Fault(tokens.get(at).place);
            branch.weight = Integer.parseInt(tokens.get(at).text);
            at++;
        }
        while (tokens.get(at).sort == '(') at = parse(tokens, at, branch, open + 1, out);
        if (tokens.get(at).sort != ')') throw new Fault(tokens.get(at).place);
        return at + 1;
    }

    int text() {
        List<Token> tokens = tokens();
        tape.clear();
        List<Branch> out = new ArrayList<>();
        try {
            int behind = parse(tokens, 0, null, 0, out);
            if (tokens.get(behind).sort != '$') throw new Fault(tokens.get(behind).place);
        } catch (Fault f) {
            return -100 - f.place;
        }
        tree = out;
        return tree.size();
    }

    private int cost(Branch b) {
        return cost(b.kind, b.weight, b.sons.size() + (b.in == null ? 0 : 1), b.number);
    }

    /** How many covers at and under b there are of each sum, b in or out. */
    private TreeMap<Integer, BigInteger> sums(Branch b, boolean isIn, boolean byCost) {
        TreeMap<Integer, BigInteger> all = new TreeMap<>();
        all.put(isIn ? byCost ? cost(b) : 1 : 0, BigInteger.ONE);
        for (Branch son : b.sons) {
            TreeMap<Integer, BigInteger> sonSums = sums(son, true, byCost);
            if (isIn) sums(son, false, byCost).forEach((s, m) -> sonSums.merge(s, m, BigInteger::add));
            TreeMap<Integer, BigInteger> joined = new TreeMap<>();
            all.forEach((s, m) -> sonSums.forEach((t, k) -> joined.merge(s + t, m.multiply(k), BigInteger::add)));
            all = joined;
        }
        return all;
    }

    /** Bare covers at and under b; whether b is in, and whether it must find someone outside among its sons. */
    private BigInteger bares(Branch b, boolean isIn, boolean mustFind) {
        BigInteger any = BigInteger.ONE;
        BigInteger noneOut = BigInteger.ONE;
        for (Branch son : b.sons) {
            BigInteger sonIn = bares(son, true, isIn);
            any = any.multiply(isIn ? sonIn.add(bares(son, false, false)) : sonIn);
            noneOut = noneOut.multiply(sonIn);
        }
        return isIn && mustFind ? any.subtract(noneOut) : any;
    }

    long tree(int what) {
        if (what < 0 || what > 5) return BAD;
        if (tree.isEmpty()) return NONE;
        Branch root = tree.get(0);
        if (what == 5) return bares(root, true, true).add(bares(root, false, false)).longValueExact();
        TreeMap<Integer, BigInteger> all = sums(root, true, what > 2);
        sums(root, false, what > 2).forEach((s, m) -> all.merge(s, m, BigInteger::add));
        if (what == 0 || what == 3) return all.firstKey();
        if (what == 2 || what == 4) return all.firstEntry().getValue().longValueExact();
        return all.values().stream().reduce(BigInteger.ZERO, BigInteger::add).longValueExact();
    }

    private int under(Branch b) {
        int many = 0;
        for (Branch son : b.sons) many += 1 + under(son);
        return many;
    }

    int treeOf(int node, int what) {
        if (node < 0 || node >= tree.size() || what < 0 || what > 5) return BAD;
        Branch b = tree.get(node);
        boolean[] marked = new boolean[60];
        for (int v = tree.size() - 1; v >= 1; v--) {
            int up = tree.get(v).in.number;
            if (!marked[v] && !marked[up]) marked[up] = true;
        }
        int up = b.in == null ? NONE : b.in.number;
        return new int[] {b.kind, b.weight, up, under(b), cost(b), marked[node] ? 1 : 0}[what];
    }

    int plant() {
        if (tree.isEmpty()) return NONE;
        if (tree.size() > 12) return STATE;
        spots = new ArrayList<>();
        lines = new boolean[12][12];
        for (Branch b : tree) {
            spots.add(new Spot(b.kind, b.weight));
            if (b.in != null) lines[b.number][b.in.number] = lines[b.in.number][b.number] = true;
        }
        changed();
        return n();
    }

    // ---- draws

    int seed(int v) {
        int was = z;
        z = v;
        return was;
    }

    private int draw() {
        z = z * 1103515245 + 12345;
        return z >>> 16;
    }

    int deal(int many, int odds) {
        if (many < 0 || many > 12 || odds < 0 || odds > 10) return BAD;
        spots = new ArrayList<>();
        lines = new boolean[12][12];
        for (int i = 0; i < many; i++) {
            int kind = draw() % 6;
            spots.add(new Spot(kind, 1 + draw() % 9));
        }
        for (int a = 0; a < many; a++)
            for (int b = a + 1; b < many; b++) lines[a][b] = lines[b][a] = draw() % 10 < odds;
        changed();
        return count(1);
    }

    int times(int many, int points, int odds, int k) {
        if (many < 1 || many > 20 || points < 0 || points > 12) return BAD;
        if (odds < 0 || odds > 10 || k < 0 || k > 12) return BAD;
        PlainModel other = new PlainModel();
        other.z = z;
        int found = 0;
        for (int i = 0; i < many; i++) {
            other.deal(points, odds);
            if (other.fewestOf(other.all()) <= k) found++;
        }
        return found;
    }

    // ---- sheets, shelves

    int sheet(int s, int sort, int many) {
        if (s < 0 || s > 3 || sort < -1 || sort > 2) return BAD;
        if (sort == -1) {
            sheets[s] = null;
            return 1;
        }
        if (many > 60) return BAD;
        if (many < 0) return -14;
        sheets[s] = new Row(sort, new int[many]);
        return 1;
    }

    int write(int s, int i, int v) {
        if (s < 0 || s > 3) return BAD;
        if (sheets[s] == null) return -11;
        if (i < 0 || i >= sheets[s].numbers.length) return -12;
        int bits = new int[] {24, 16, 0}[sheets[s].sort];
        sheets[s].numbers[i] = v << bits >> bits;
        return 1;
    }

    int item(int s, int i) {
        if (s < 0 || s > 3) return BAD;
        if (sheets[s] == null) return -11;
        return i < 0 || i >= sheets[s].numbers.length ? -12 : sheets[s].numbers[i];
    }

    int copy(int s, int i, int other, int j, int many) {
        if (s < 0 || s > 3 || other < 0 || other > 3) return BAD;
        if (sheets[s] == null || sheets[other] == null) return -11;
        if (sheets[s].sort != sheets[other].sort) return -13;
        if (i < 0 || j < 0 || many < 0 || (long) i + many > sheets[s].numbers.length) return -12;
        if ((long) j + many > sheets[other].numbers.length) return -12;
        int[] was = sheets[s].numbers.clone();
        for (int m = 0; m < many; m++) sheets[other].numbers[j + m] = was[i + m];
        return many;
    }

    int load(int s) {
        if (s < 0 || s > 3) return BAD;
        if (sheets[s] == null) return -11;
        int came = 0;
        for (int v : sheets[s].numbers) {
            if (v < 1 || v > 9 || came >= n()) break;
            spots.get(came).weight = v;
            came++;
        }
        return came;
    }

    int judge(int s) {
        if (s < 0 || s > 3) return BAD;
        if (sheets[s] == null) return -11;
        int[] row = sheets[s].numbers;
        int sum = 0;
        for (int i = 0; i < row.length; i++) {
            if (row[i] < 0 || row[i] > 2 || i >= n()) return 1 + i;
            for (int q = 0; q < i; q++) if (lines[q][i] && row[q] + row[i] < 2) return 1 + i;
            sum += row[i];
        }
        return row.length == n() && sum == theHalves(all())[0] ? 0 : 100;
    }

    int shelf(int h, int what, int number) {
        if (h < 0 || h > 3 || what < 0 || what > 2) return BAD;
        if (what == 0 && !isPoint(number) || what == 1 && (number < 0 || number > 3)) return BAD;
        shelves[h] = what == 0 ? (Object) number : what == 1 ? sheets[number] : null;
        return 1;
    }

    int taken(int h, int as) {
        if (h < 0 || h > 3 || as < 0 || as > 12 || as > 5 && as < 10) return BAD;
        if (shelves[h] instanceof Row row) return as == row.sort + 10 ? row.numbers.length : -13;
        if (shelves[h] == null || !isPoint((Integer) shelves[h])) return -11;
        int p = (Integer) shelves[h];
        String[] lineage = {"0", "01", "02", "013", "024", "0135"};
        boolean fits = as < 6 && lineage[spots.get(p).kind].indexOf('0' + as) >= 0;
        return fits ? p : -13;
    }

    // ---- the image

    private static List<Spot> copyOf(List<Spot> from) {
        List<Spot> to = new ArrayList<>();
        for (Spot s : from) to.add(new Spot(s.kind, s.weight));
        return to;
    }

    private static boolean[][] copyOf(boolean[][] from) {
        boolean[][] to = new boolean[12][];
        for (int i = 0; i < 12; i++) to[i] = from[i].clone();
        return to;
    }

    int image() {
        keptSpots = copyOf(spots);
        keptLines = copyOf(lines);
        keptZ = z;
        return n();
    }

    int back() {
        if (keptSpots == null) return STATE;
        spots = copyOf(keptSpots);
        lines = copyOf(keptLines);
        z = keptZ;
        changed();
        return n();
    }
}
