import java.util.ArrayDeque;
import java.util.ArrayList;
import java.util.Arrays;
import java.util.List;
import java.util.Random;
import java.util.TreeSet;

/**
 * Compares every answer with that of a slow model that follows the document's words, on all graphs
 * of up to five vertices, on graphs of six to nine that are made by rules and from fixed seeds, and
 * in runs of calls that use an object up.
 */
public final class SplitForestByTheWords {
    private static final int CALLS_OF_ONE_OBJECT = 512;
    private static int wrong = 0;
    private static int graphs = 0;
    private static final int[] obstaclesSeen = new int[5];

    public static void main(String[] args) {
        allSmallGraphs();
        randomGraphs();
        graphsThatCanBeTakenAway();
        circlesWithChords();
        runsOfCalls();
        for (int kind = SplitForest.HOLE; kind <= SplitForest.DOMINO; kind++) {
            due("obstacles of kind " + kind + " were seen", obstaclesSeen[kind] > 0 ? 1 : 0, 1);
        }
        System.out.println(wrong == 0 ? "all answers on " + graphs + " graphs are as due"
                : wrong + " answers are not as due");
        if (wrong != 0) {
            System.exit(1);
        }
    }

    private static void due(String what, long got, long want) {
        if (got != want) {
            wrong++;
            if (wrong <= 50) {
                System.out.println(what + " answered " + got + ", due is " + want);
            }
        }
    }

    private static void due(String what, boolean got, boolean want) {
        due(what, got ? 1 : 0, want ? 1 : 0);
    }

    private static void allSmallGraphs() {
        for (int n = 1; n <= 5; n++) {
            int pairs = n * (n - 1) / 2;
            for (int chosen = 0; chosen < 1 << pairs; chosen++) {
                boolean[][] edges = new boolean[n][n];
                int pair = 0;
                for (int a = 0; a < n; a++) {
                    for (int b = 0; b < a; b++) {
                        join(edges, a, b, (chosen >> pair & 1) != 0);
                        pair++;
                    }
                }
                compare(edges);
            }
        }
    }

    private static void randomGraphs() {
        Random random = new Random(20261115);
        for (int round = 0; round < 1200; round++) {
            int n = 6 + round % 4;
            int density = 10 + random.nextInt(85);
            boolean[][] edges = new boolean[n][n];
            for (int a = 0; a < n; a++) {
                for (int b = 0; b < a; b++) {
                    join(edges, a, b, random.nextInt(100) < density);
                }
            }
            compare(edges);
        }
    }

    /** Graphs that grow by leaves and twins, some with an edge flipped at the end. */
    private static void graphsThatCanBeTakenAway() {
        Random random = new Random(7);
        for (int round = 0; round < 1200; round++) {
            int n = 6 + round % 4;
            int[] name = shuffled(n, random);
            boolean[][] edges = new boolean[n][n];
            for (int i = 1; i < n; i++) {
                int x = name[i];
                int y = name[random.nextInt(i)];
                int form = i == 1 ? 0 : random.nextInt(3);
                for (int u = 0; u < n; u++) {
                    if (form != 0 && u != x && edges[y][u]) {
                        join(edges, x, u, true);
                    }
                }
                if (form != 1) {
                    join(edges, x, y, true);
                }
            }
            if (round % 3 == 0) {
                int a = name[random.nextInt(n)];
                int b = (a + 1) % n;
                join(edges, a, b, !edges[a][b]);
            }
            compare(edges);
        }
    }

    private static void circlesWithChords() {
        Random random = new Random(99);
        for (int round = 0; round < 400; round++) {
            int n = 6 + round % 4;
            int[] name = shuffled(n, random);
            boolean[][] edges = new boolean[n][n];
            for (int i = 0; i < n; i++) {
                join(edges, name[i], name[(i + 1) % n], true);
            }
            for (int chord = random.nextInt(3); chord > 0; chord--) {
                int i = random.nextInt(n);
                join(edges, name[i], name[(i + 2 + random.nextInt(n - 3)) % n], true);
            }
            compare(edges);
        }
    }

    /** Objects that are used up: flips, also back again, between questions of all kinds on any vertex. */
    private static void runsOfCalls() {
        Random random = new Random(5);
        for (int round = 0; round < 180; round++) {
            int n = round < 18 ? 1 + round % 9 : 5 + round % 5;
            new Run(n, round % 2 == 0 ? n : n * n, random).useUp();
        }
    }

    /** One object, the graph that it should have, and what the model says of that graph's components. */
    private static final class Run {
        private static final int[] NO_VERTEX_OR_NODE = {-1, -2, 9, 10, 31, 32, 33, -32, 64, 1 << 30,
            Integer.MIN_VALUE, Integer.MAX_VALUE};
        final Random random;
        final int n;
        // Few edges leave several components, many make one that is seldom hereditary.
        final int mostEdges;
        final SplitForest x;
        final boolean[][] edges;
        final Words[] known;
        final ArrayDeque<int[]> flips = new ArrayDeque<>();
        final ArrayDeque<int[]> asked = new ArrayDeque<>();

        Run(int n, int mostEdges, Random random) {
            this.random = random;
            this.n = n;
            this.mostEdges = mostEdges;
            x = new SplitForest(n);
            edges = new boolean[n][n];
            known = new Words[n];
        }

        void useUp() {
            for (int call = 0; call < CALLS_OF_ONE_OBJECT; call++) {
                int flipsOfHundred = call < 4 * n ? 60 : 12;
                if (random.nextInt(100) < flipsOfHundred) {
                    flip();
                } else {
                    ask();
                }
            }
        }

        private void flip() {
            boolean back = !flips.isEmpty() && (flips.size() == mostEdges || random.nextInt(4) == 0);
            int[] pair = back ? flipBefore() : new int[] {vertex(), vertex()};
            boolean there = false;
            if (isVertex(pair[0]) && isVertex(pair[1]) && pair[0] != pair[1]) {
                there = !edges[pair[0]][pair[1]];
                join(edges, pair[0], pair[1], there);
                Arrays.fill(known, null);
                if (!back) {
                    flips.push(pair);
                }
            }
            due("run: flip(" + pair[0] + ", " + pair[1] + ")", x.flip(pair[0], pair[1]), there);
        }

        private int[] flipBefore() {
            return random.nextBoolean() ? flips.pollFirst() : flips.pollLast();
        }

        /** A question that is new, or one of the last ones once more. */
        private void ask() {
            int[] question;
            if (asked.size() > 12) {
                question = asked.pollFirst();
            } else {
                question = new int[] {random.nextInt(19), vertex(), nodeOrVertex(), random.nextInt(n + 3) - 1};
            }
            if (random.nextInt(3) != 0) {
                asked.addLast(question);
            }
            answer(question[0], question[1], question[2], question[3]);
        }

        private int vertex() {
            return random.nextInt(25) == 0 ? noVertexOrNode() : random.nextInt(n);
        }

        private int nodeOrVertex() {
            return random.nextInt(25) == 0 ? noVertexOrNode() : random.nextInt(n + 1);
        }

        private int noVertexOrNode() {
            return NO_VERTEX_OR_NODE[random.nextInt(NO_VERTEX_OR_NODE.length)];
        }

        private boolean isVertex(int v) {
            return v >= 0 && v < n;
        }

        private Words words(int v) {
            if (known[v] == null) {
                known[v] = new Words(edges, v);
            }
            return known[v];
        }

        private void answer(int which, int v, int k, int i) {
            String at = "run: question " + which + " (" + v + ", " + k + ", " + i + ")";
            if (which == 0) {
                due(at, x.vertices(), n);
            } else if (which == 1) {
                due(at, x.neighbours(v, k), isVertex(v) && isVertex(k) && edges[v][k]);
            } else if (which == 2) {
                due(at, x.component(v), isVertex(v) ? words(v).all : 0);
            } else if (which == 3) {
                due(at, x.hereditary(v), isVertex(v) && words(v).hereditary);
            } else if (which == 4 || which == 5) {
                due(at, x.linked(v, k), isVertex(v) && isVertex(k) && words(v).linked(k));
            } else {
                due(at, number(which, v, k, i), isVertex(v) ? numberByTheWords(which, words(v), k, i) : -1);
            }
        }

        private int number(int which, int v, int k, int i) {
            return switch (which) {
                case 6 -> x.splits(v);
                case 7 -> x.strong(v);
                case 8 -> x.set(v, k);
                case 9 -> x.kind(v, k);
                case 10 -> x.parts(v, k);
                case 11 -> x.part(v, k, i);
                case 12 -> x.centre(v, k);
                case 13 -> x.step(v, k);
                case 14 -> x.obstruction(v);
                case 15 -> x.obstacle(v);
                case 16 -> x.apart(v);
                case 17 -> x.chosen(v);
                default -> x.cover(v);
            };
        }

        private int numberByTheWords(int which, Words words, int k, int i) {
            boolean node = k >= 0 && k < words.nodes.size();
            List<Integer> parts = node ? words.parts(k) : List.of();
            return switch (which) {
                case 6 -> words.splits.size();
                case 7 -> words.nodes.size() - 1;
                case 8 -> node ? words.nodes.get(k) : -1;
                case 9 -> words.kind(k);
                case 10 -> node ? parts.size() : -1;
                case 11 -> i >= 0 && i < parts.size() ? parts.get(i) : -1;
                case 12 -> words.centre(k);
                case 13 -> k >= 0 && k < words.steps.size() ? words.steps.get(k) : -1;
                case 14 -> words.obstruction();
                case 15 -> words.obstacle();
                case 16 -> words.apart();
                case 17 -> words.chosen();
                default -> words.cover();
            };
        }
    }

    private static int[] shuffled(int n, Random random) {
        int[] name = new int[n];
        for (int i = 0; i < n; i++) {
            int j = random.nextInt(i + 1);
            name[i] = name[j];
            name[j] = i;
        }
        return name;
    }

    private static void join(boolean[][] edges, int a, int b, boolean there) {
        edges[a][b] = there;
        edges[b][a] = there;
    }

    private static SplitForest made(boolean[][] edges) {
        int n = edges.length;
        SplitForest x = new SplitForest(n);
        for (int a = 0; a < n; a++) {
            for (int b = 0; b < a; b++) {
                if (edges[a][b]) {
                    due("flip", x.flip(a, b), true);
                }
            }
        }
        return x;
    }

    private static void compare(boolean[][] edges) {
        graphs++;
        int n = edges.length;
        int seen = 0;
        for (int v = 0; v < n; v++) {
            Words words = new Words(edges, v);
            if ((seen >> v & 1) == 0) {
                compareTree(made(edges), words, v);
                compareRest(made(edges), words, v);
            }
            seen |= words.all;
            due("component " + v, made(edges).component(v), words.all);
        }
        comparePairs(made(edges), edges);
        compareTellers(made(edges), n);
    }

    private static void compareTree(SplitForest x, Words words, int v) {
        due("splits", x.splits(v), words.splits.size());
        due("strong", x.strong(v), words.nodes.size() - 1);
        for (int k = -1; k <= words.nodes.size(); k++) {
            boolean there = k >= 0 && k < words.nodes.size();
            List<Integer> parts = there ? words.parts(k) : new ArrayList<>();
            due("set " + k, x.set(v, k), there ? words.nodes.get(k) : -1);
            due("kind " + k, x.kind(v, k), words.kind(k));
            due("centre " + k, x.centre(v, k), words.centre(k));
            due("parts " + k, x.parts(v, k), there ? parts.size() : -1);
            for (int i = -1; i <= parts.size(); i++) {
                due("part " + k + " " + i, x.part(v, k, i), i >= 0 && i < parts.size() ? parts.get(i) : -1);
            }
        }
    }

    private static void compareRest(SplitForest x, Words words, int v) {
        due("hereditary", x.hereditary(v), words.hereditary);
        for (int k = -1; k <= words.steps.size(); k++) {
            due("step " + k, x.step(v, k), k >= 0 && k < words.steps.size() ? words.steps.get(k) : -1);
        }
        int obstacle = words.obstacle();
        if (obstacle > 0) {
            obstaclesSeen[obstacle]++;
        }
        due("obstruction", x.obstruction(v), words.obstruction());
        due("obstacle", x.obstacle(v), obstacle);
        due("apart", x.apart(v), words.apart());
        due("chosen", x.chosen(v), words.chosen());
        due("cover", x.cover(v), words.cover());
        due("cover, which is apart in a perfect graph", x.cover(v), x.apart(v));
    }

    /** That the tree tells just the edges is a theorem, and so a test of both. */
    private static void comparePairs(SplitForest x, boolean[][] edges) {
        for (int v = 0; v < edges.length; v++) {
            Words words = new Words(edges, v);
            for (int w = 0; w < edges.length; w++) {
                due("neighbours " + v + " " + w, x.neighbours(v, w), edges[v][w]);
                due("linked " + v + " " + w, x.linked(v, w), edges[v][w]);
                due("linked by the words " + v + " " + w, words.linked(w), edges[v][w]);
            }
        }
    }

    private static void compareTellers(SplitForest x, int n) {
        for (int v = 0; v < n; v++) {
            int least = Integer.numberOfTrailingZeros(x.component(v));
            due("teller: splits", x.splits(v), x.splits(least));
            due("teller: set 1", x.set(v, 1), x.set(least, 1));
            due("teller: step 0", x.step(v, 0), x.step(least, 0));
            due("teller: obstruction", x.obstruction(v), x.obstruction(least));
            due("teller: cover", x.cover(v), x.cover(least));
        }
    }

    /** The model: one component, each answer straight from the words of the document. */
    private static final class Words {
        final boolean[][] edges;
        final int n;
        final int v;
        final int all;
        final TreeSet<Integer> splits = new TreeSet<>();
        final List<Integer> nodes = new ArrayList<>();
        final List<Integer> steps = new ArrayList<>();
        final boolean hereditary;

        Words(boolean[][] edges, int v) {
            this.edges = edges;
            this.n = edges.length;
            this.v = v;
            all = componentIn(v, (1 << n) - 1);
            for (int s = 0; s < 1 << n; s++) {
                if (isSplit(s)) {
                    splits.add(s);
                }
            }
            nodes.add(all);
            for (int s : splits) {
                if (isStrong(s)) {
                    nodes.add(s);
                }
            }
            hereditary = eliminated(all, steps);
        }

        static boolean in(int set, int u) {
            return (set >> u & 1) != 0;
        }

        int componentIn(int from, int within) {
            TreeSet<Integer> open = new TreeSet<>();
            open.add(from);
            int found = 0;
            while (!open.isEmpty()) {
                int u = open.pollFirst();
                found |= 1 << u;
                for (int w = 0; w < n; w++) {
                    if (edges[u][w] && in(within, w) && !in(found, w)) {
                        open.add(w);
                    }
                }
            }
            return found;
        }

        boolean isSplit(int s) {
            if ((s & ~all) != 0 || in(s, Integer.numberOfTrailingZeros(all))) {
                return false;
            }
            int out = all - s;
            if (Integer.bitCount(s) < 2 || Integer.bitCount(out) < 2) {
                return false;
            }
            for (int a = 0; a < n; a++) {
                for (int b = 0; b < n; b++) {
                    for (int c = 0; c < n; c++) {
                        for (int d = 0; d < n; d++) {
                            if (in(s, a) && in(s, b) && in(out, c) && in(out, d)
                                    && edges[a][c] && edges[b][d] && !edges[a][d]) {
                                return false;
                            }
                        }
                    }
                }
            }
            return true;
        }

        boolean isStrong(int s) {
            for (int t : splits) {
                boolean both = false;
                boolean one = false;
                boolean other = false;
                for (int u = 0; u < n; u++) {
                    both |= in(s, u) && in(t, u);
                    one |= in(s, u) && !in(t, u);
                    other |= !in(s, u) && in(t, u);
                }
                if (both && one && other) {
                    return false;
                }
            }
            return true;
        }

        List<Integer> parts(int k) {
            int own = nodes.get(k);
            List<Integer> inside = new ArrayList<>();
            for (int j = 1; j < nodes.size(); j++) {
                if ((nodes.get(j) | own) == own && nodes.get(j) != own) {
                    inside.add(nodes.get(j));
                }
            }
            TreeSet<Integer> found = new TreeSet<>();
            int taken = 0;
            for (int s : inside) {
                boolean widest = true;
                for (int t : inside) {
                    widest &= s == t || (s | t) != t;
                }
                if (widest) {
                    found.add(s);
                    taken |= s;
                }
            }
            for (int u = 0; u < n; u++) {
                if (in(own, u) && !in(taken, u)) {
                    found.add(1 << u);
                }
            }
            if (k > 0) {
                found.add(all - own);
            }
            return new ArrayList<>(found);
        }

        boolean joined(int one, int other) {
            for (int a = 0; a < n; a++) {
                for (int b = 0; b < n; b++) {
                    if (in(one, a) && in(other, b) && edges[a][b]) {
                        return true;
                    }
                }
            }
            return false;
        }

        int kind(int k) {
            if (k < 0 || k >= nodes.size()) {
                return -1;
            }
            boolean clique = true;
            for (int p : parts(k)) {
                for (int q : parts(k)) {
                    clique &= p == q || joined(p, q);
                }
            }
            if (clique) {
                return 1;
            }
            return starCentre(k) == -1 ? 3 : 2;
        }

        int centre(int k) {
            return kind(k) == 2 ? starCentre(k) : -1;
        }

        int starCentre(int k) {
            for (int c : parts(k)) {
                boolean fits = true;
                for (int p : parts(k)) {
                    for (int q : parts(k)) {
                        if (p != q) {
                            fits &= joined(p, q) == (p == c || q == c);
                        }
                    }
                }
                if (fits) {
                    return c;
                }
            }
            return -1;
        }

        boolean linked(int w) {
            if (w == v || !in(all, w)) {
                return false;
            }
            for (int k = 0; k < nodes.size(); k++) {
                int withV = 0;
                int withW = 0;
                for (int p : parts(k)) {
                    withV = in(p, v) ? p : withV;
                    withW = in(p, w) ? p : withW;
                }
                if (withV != withW && !joined(withV, withW)) {
                    return false;
                }
            }
            return true;
        }

        /** Whether the elimination of this connected set ends with one; tells its steps. */
        boolean eliminated(int connected, List<Integer> told) {
            TreeSet<Integer> there = new TreeSet<>();
            for (int u = 0; u < n; u++) {
                if (in(connected, u)) {
                    there.add(u);
                }
            }
            while (there.size() >= 2) {
                int taken = -1;
                for (int x : there.descendingSet()) {
                    int step = taking(x, there);
                    if (step != -1) {
                        told.add(step);
                        taken = x;
                        break;
                    }
                }
                if (taken == -1) {
                    return false;
                }
                there.remove(taken);
            }
            return true;
        }

        int taking(int x, TreeSet<Integer> there) {
            List<Integer> around = new ArrayList<>();
            for (int u : there) {
                if (edges[x][u]) {
                    around.add(u);
                }
            }
            if (around.size() == 1) {
                return x + 16 * around.get(0);
            }
            for (int y : there) {
                boolean twin = y != x;
                for (int u : there) {
                    twin &= u == x || u == y || edges[x][u] == edges[y][u];
                }
                if (twin) {
                    return x + 16 * y + 256 * (edges[x][y] ? 2 : 1);
                }
            }
            return -1;
        }

        boolean isHereditary(int set) {
            for (int u = 0; u < n; u++) {
                if (in(set, u) && !eliminated(componentIn(u, set), new ArrayList<>())) {
                    return false;
                }
            }
            return true;
        }

        int obstruction() {
            if (hereditary) {
                return -1;
            }
            int left = all;
            for (int u = 0; u < n; u++) {
                if (in(all, u) && !isHereditary(left - (1 << u))) {
                    left -= 1 << u;
                }
            }
            return left;
        }

        int obstacle() {
            int set = obstruction();
            if (set == -1) {
                return -1;
            }
            int count = 0;
            for (int a = 0; a < n; a++) {
                for (int b = 0; b < a; b++) {
                    count += in(set, a) && in(set, b) && edges[a][b] ? 1 : 0;
                }
            }
            int size = Integer.bitCount(set);
            if (count == size) {
                return 1;
            }
            if (size == 5 && count == 6) {
                return 2;
            }
            if (size == 5 && count == 7) {
                return 3;
            }
            if (size == 6 && count == 7) {
                return 4;
            }
            throw new IllegalStateException("there is another obstruction");
        }

        int apart() {
            int chosen = chosen();
            return chosen == -1 ? -1 : Integer.bitCount(chosen);
        }

        int chosen() {
            int best = -1;
            for (int s = all; s > 0 && hereditary; s = (s - 1) & all) {
                boolean free = !joined(s, s);
                if (free && (best == -1 || Integer.bitCount(s) >= Integer.bitCount(best))) {
                    best = s;
                }
            }
            return best;
        }

        int cover() {
            return hereditary ? fewest(0, new ArrayList<>()) : -1;
        }

        /** Puts each vertex from u on into one of the sets so far, or into a new one. */
        int fewest(int u, List<Integer> sets) {
            if (u == n) {
                return sets.size();
            }
            if (!in(all, u)) {
                return fewest(u + 1, sets);
            }
            int best = Integer.MAX_VALUE;
            for (int i = 0; i < sets.size(); i++) {
                int old = sets.get(i);
                boolean fits = true;
                for (int w = 0; w < n; w++) {
                    fits &= !in(old, w) || edges[u][w];
                }
                if (fits) {
                    sets.set(i, old | 1 << u);
                    best = Math.min(best, fewest(u + 1, sets));
                    sets.set(i, old);
                }
            }
            sets.add(1 << u);
            best = Math.min(best, fewest(u + 1, sets));
            sets.remove(sets.size() - 1);
            return best;
        }
    }
}
