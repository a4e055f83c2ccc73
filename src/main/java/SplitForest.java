/**
 * A graph of at most nine vertices whose edges come and go, the tree that the strong splits of a
 * component make of it, and the elimination of its twins and leaves. A set of vertices is an int,
 * the sum of 2^v.
 */
public final class SplitForest {
    public static final int NONE = -1;
    public static final int CLIQUE = 1, STAR = 2, PRIME = 3;
    public static final int HOLE = 1, HOUSE = 2, GEM = 3, DOMINO = 4;

    private static final int MOST_VERTICES = 9;
    private static final int USUAL_VERTICES = 7;

    private final Graph graph;
    private final SplitTree tree;
    private final Elimination elimination;
    private final Choice choice;

    public SplitForest(int vertices) {
        graph = new Graph(vertices >= 1 && vertices <= MOST_VERTICES ? vertices : USUAL_VERTICES);
        tree = new SplitTree(graph);
        elimination = new Elimination(graph);
        choice = new Choice(graph);
    }

    public int vertices() {
        return graph.size();
    }

    public boolean flip(int a, int b) {
        if (!graph.has(a) || !graph.has(b) || a == b) {
            return false;
        }
        graph.toggle(a, b);
        tree.forget();
        return graph.edge(a, b);
    }

    public boolean neighbours(int a, int b) {
        return graph.has(a) && graph.has(b) && graph.edge(a, b);
    }

    public int component(int v) {
        return graph.has(v) ? componentOf(v) : 0;
    }

    public int splits(int v) {
        return graph.has(v) ? treeOf(v).splitCount() : NONE;
    }

    public int strong(int v) {
        return graph.has(v) ? treeOf(v).nodeCount() - 1 : NONE;
    }

    public int set(int v, int k) {
        return hasNode(v, k) ? tree.nodeSet(k) : NONE;
    }

    public int kind(int v, int k) {
        return hasNode(v, k) ? tree.nodeKind(k) : NONE;
    }

    public int parts(int v, int k) {
        return hasNode(v, k) ? tree.partCount(k) : NONE;
    }

    public int part(int v, int k, int i) {
        return hasNode(v, k) ? tree.partSet(k, i) : NONE;
    }

    public int centre(int v, int k) {
        return hasNode(v, k) ? tree.centreSet(k) : NONE;
    }

    public boolean linked(int v, int w) {
        if (!graph.has(v) || !graph.has(w) || v == w) {
            return false;
        }
        return contains(componentOf(v), w) && treeOf(v).links(v, w);
    }

    public boolean hereditary(int v) {
        return graph.has(v) && elimination.clears(componentOf(v));
    }

    public int step(int v, int k) {
        return graph.has(v) ? elimination.stepOf(componentOf(v), k) : NONE;
    }

    public int obstruction(int v) {
        return graph.has(v) ? elimination.obstructionIn(componentOf(v)) : NONE;
    }

    public int obstacle(int v) {
        int found = graph.has(v) ? elimination.obstructionIn(componentOf(v)) : NONE;
        return found == NONE ? NONE : obstacleKind(Integer.bitCount(found), graph.edgesInside(found));
    }

    public int apart(int v) {
        return hereditary(v) ? Integer.bitCount(choice.largestApart(componentOf(v))) : NONE;
    }

    public int chosen(int v) {
        return hereditary(v) ? choice.largestApart(componentOf(v)) : NONE;
    }

    public int cover(int v) {
        return hereditary(v) ? choice.fewestCliques(componentOf(v)) : NONE;
    }

    private int componentOf(int v) {
        return graph.reached(v, graph.all());
    }

    private SplitTree treeOf(int v) {
        tree.growFor(componentOf(v));
        return tree;
    }

    /** When this is true, the tree is the one of v's component. */
    private boolean hasNode(int v, int k) {
        return graph.has(v) && k >= 0 && k < treeOf(v).nodeCount();
    }

    private static int obstacleKind(int vertices, int edges) {
        if (edges == vertices) {
            return HOLE;
        }
        if (vertices == 6) {
            return DOMINO;
        }
        return edges == 6 ? HOUSE : GEM;
    }

    private static boolean contains(int set, int v) {
        return ((set >> v) & 1) != 0;
    }

    /** The vertices and edges. Its callers have looked that each vertex they tell is one. */
    private static final class Graph {
        private final int size;
        private final int[] near;

        Graph(int size) {
            this.size = size;
            near = new int[size];
        }

        int size() {
            return size;
        }

        int all() {
            return (1 << size) - 1;
        }

        boolean has(int v) {
            return v >= 0 && v < size;
        }

        boolean edge(int a, int b) {
            return contains(near[a], b);
        }

        void toggle(int a, int b) {
            near[a] ^= 1 << b;
            near[b] ^= 1 << a;
        }

        int nearInside(int v, int set) {
            return near[v] & set;
        }

        /** Whether x and y have the same neighbours in the set besides one another. */
        boolean areTwins(int x, int y, int set) {
            int others = set & ~(1 << x) & ~(1 << y);
            return (near[x] & others) == (near[y] & others);
        }

        /** The component of v in the graph that has the vertices of the set alone. */
        int reached(int v, int set) {
            int found = 1 << v;
            // Each round but the last finds a vertex, so that size rounds find all.
            for (int round = 0; round < size; round++) {
                int wider = found | nearToAny(found, set);
                if (wider == found) {
                    break;
                }
                found = wider;
            }
            return found;
        }

        boolean joined(int one, int other) {
            return nearToAny(one, other) != 0;
        }

        int edgesInside(int set) {
            int ends = 0;
            for (int u = 0; u < size; u++) {
                if (contains(set, u)) {
                    ends += Integer.bitCount(near[u] & set);
                }
            }
            return ends / 2;
        }

        private int nearToAny(int from, int set) {
            int found = 0;
            for (int u = 0; u < size; u++) {
                if (contains(from, u)) {
                    found |= near[u] & set;
                }
            }
            return found;
        }
    }

    /** The splits of one component and their tree, kept until an edge or the component changes. */
    private static final class SplitTree {
        private final Graph graph;
        // A split is a set without the least vertex, so there are fewer than 2^(size - 1).
        private final int[] splitSets;
        private int splitCount;
        private final int[] nodeSets;
        private int nodeCount;
        // The parts of the node that was looked at last: they share no vertex, so size is enough.
        private final int[] partSets;
        private final int[] degrees;
        private int partCount;
        private int pairsJoined;
        // The component, or 0 when the tree no longer fits the graph.
        private int whole;

        SplitTree(Graph graph) {
            this.graph = graph;
            splitSets = new int[1 << (graph.size() - 1)];
            nodeSets = new int[1 << (graph.size() - 1)];
            partSets = new int[graph.size()];
            degrees = new int[graph.size()];
        }

        void forget() {
            whole = 0;
        }

        void growFor(int component) {
            if (whole != component) {
                whole = component;
                findSplits();
                findNodes();
            }
        }

        int splitCount() {
            return splitCount;
        }

        int nodeCount() {
            return nodeCount;
        }

        int nodeSet(int k) {
            return nodeSets[k];
        }

        int partCount(int k) {
            findParts(k);
            return partCount;
        }

        int partSet(int k, int i) {
            findParts(k);
            return i >= 0 && i < partCount ? partSets[i] : NONE;
        }

        int nodeKind(int k) {
            findJoins(k);
            if (pairsJoined == partCount * (partCount - 1) / 2) {
                return CLIQUE;
            }
            return centreIndex() == NONE ? PRIME : STAR;
        }

        int centreSet(int k) {
            return nodeKind(k) == STAR ? partSets[centreIndex()] : NONE;
        }

        boolean links(int v, int w) {
            for (int k = 0; k < nodeCount; k++) {
                int one = partWith(k, v);
                int other = partWith(k, w);
                if (one != other && !graph.joined(one, other)) {
                    return false;
                }
            }
            return true;
        }

        private void findSplits() {
            int inner = whole & (whole - 1);
            splitCount = 0;
            for (int s = 1; s <= inner; s++) {
                if ((s & ~inner) == 0 && isSplit(s, whole & ~s)) {
                    splitSets[splitCount] = s;
                    splitCount++;
                }
            }
        }

        /** All vertices of the set that see the outside at all must see the same of it. */
        private boolean isSplit(int s, int outside) {
            if (Integer.bitCount(s) < 2 || Integer.bitCount(outside) < 2) {
                return false;
            }
            int bond = 0;
            for (int u = 0; u < graph.size(); u++) {
                int seen = contains(s, u) ? graph.nearInside(u, outside) : 0;
                if (seen != 0 && bond != 0 && seen != bond) {
                    return false;
                }
                bond |= seen;
            }
            return true;
        }

        private void findNodes() {
            nodeSets[0] = whole;
            nodeCount = 1;
            for (int i = 0; i < splitCount; i++) {
                if (isStrong(splitSets[i])) {
                    nodeSets[nodeCount] = splitSets[i];
                    nodeCount++;
                }
            }
        }

        private boolean isStrong(int s) {
            for (int i = 0; i < splitCount; i++) {
                int t = splitSets[i];
                if ((s & t) != 0 && (s & ~t) != 0 && (t & ~s) != 0) {
                    return false;
                }
            }
            return true;
        }

        /** The part of node k that has the vertex u. */
        private int partWith(int k, int u) {
            int own = nodeSets[k];
            if (!contains(own, u)) {
                return whole & ~own;
            }
            int widest = 1 << u;
            // Strong splits with a common vertex lie one in the other, and their sums rise, so
            // that the last one found has all others that were found inside.
            for (int j = 1; j < nodeCount; j++) {
                int inside = nodeSets[j];
                if (contains(inside, u) && inside != own && (inside & ~own) == 0) {
                    widest = inside;
                }
            }
            return widest;
        }

        private void findParts(int k) {
            int rest = whole;
            partCount = 0;
            for (int u = 0; u < graph.size(); u++) {
                if (contains(rest, u)) {
                    int found = partWith(k, u);
                    rest &= ~found;
                    addPart(found);
                }
            }
        }

        private void addPart(int found) {
            int place = partCount;
            while (place > 0 && partSets[place - 1] > found) {
                partSets[place] = partSets[place - 1];
                place--;
            }
            partSets[place] = found;
            partCount++;
        }

        private void findJoins(int k) {
            findParts(k);
            pairsJoined = 0;
            for (int i = 0; i < partCount; i++) {
                degrees[i] = 0;
                for (int j = 0; j < i; j++) {
                    if (graph.joined(partSets[i], partSets[j])) {
                        degrees[i]++;
                        degrees[j]++;
                        pairsJoined++;
                    }
                }
            }
        }

        /** A part that all joined pairs have, and that is joined to all others, or NONE. */
        private int centreIndex() {
            for (int i = 0; i < partCount; i++) {
                if (degrees[i] == partCount - 1 && pairsJoined == partCount - 1) {
                    return i;
                }
            }
            return NONE;
        }
    }

    /** The taking away of leaves and twins. */
    private static final class Elimination {
        private static final int PARTNER_WEIGHT = 16;
        private static final int FALSE_TWIN = 256;
        private static final int TRUE_TWIN = 512;

        private final Graph graph;
        private final int[] steps;
        private int stepCount;
        private int left;

        Elimination(Graph graph) {
            this.graph = graph;
            steps = new int[graph.size()];
        }

        int stepOf(int component, int k) {
            run(component);
            return k >= 0 && k < stepCount ? steps[k] : NONE;
        }

        /** Whether the set is hereditary; it may have several components. */
        boolean clears(int set) {
            int rest = set;
            for (int u = 0; u < graph.size(); u++) {
                if (contains(rest, u)) {
                    int component = graph.reached(u, set);
                    rest &= ~component;
                    run(component);
                    if (Integer.bitCount(left) != 1) {
                        return false;
                    }
                }
            }
            return true;
        }

        int obstructionIn(int component) {
            if (clears(component)) {
                return NONE;
            }
            int kept = component;
            for (int u = 0; u < graph.size(); u++) {
                int fewer = kept & ~(1 << u);
                if (contains(kept, u) && !clears(fewer)) {
                    kept = fewer;
                }
            }
            return kept;
        }

        private void run(int component) {
            left = component;
            stepCount = 0;
            for (int step = nextStep(); step != NONE && stepCount < steps.length; step = nextStep()) {
                steps[stepCount] = step;
                stepCount++;
                left &= ~(1 << (step % PARTNER_WEIGHT));
            }
        }

        private int nextStep() {
            for (int x = graph.size() - 1; x >= 0; x--) {
                int step = contains(left, x) ? stepAt(x) : NONE;
                if (step != NONE) {
                    return step;
                }
            }
            return NONE;
        }

        /** The step that would take x away now; NONE when x is neither leaf nor twin. */
        private int stepAt(int x) {
            int around = graph.nearInside(x, left);
            boolean leaf = Integer.bitCount(around) == 1;
            for (int y = 0; y < graph.size(); y++) {
                boolean near = contains(around, y);
                if (leaf && near) {
                    return x + PARTNER_WEIGHT * y;
                }
                if (!leaf && y != x && contains(left, y) && graph.areTwins(x, y, left)) {
                    return x + PARTNER_WEIGHT * y + (near ? TRUE_TWIN : FALSE_TWIN);
                }
            }
            return NONE;
        }
    }

    /** The largest set without edges and the fewest cliques of a set of vertices. */
    private static final class Choice {
        private final Graph graph;
        private final int[] fewest;

        Choice(Graph graph) {
            this.graph = graph;
            fewest = new int[1 << graph.size()];
        }

        int largestApart(int component) {
            int best = 0;
            // Sums rise, so that the first set of its size is the least one.
            for (int s = 1; s <= component; s++) {
                if ((s & ~component) == 0 && Integer.bitCount(s) > Integer.bitCount(best)
                        && !graph.joined(s, s)) {
                    best = s;
                }
            }
            return best;
        }

        int fewestCliques(int component) {
            int grown = 0;
            for (int u = 0; u < graph.size(); u++) {
                if (contains(component, u)) {
                    coverWith(u, grown);
                    grown |= 1 << u;
                }
            }
            return fewest[component];
        }

        /** Fills in the sets that have u besides vertices of the grown set, all less than u. */
        private void coverWith(int u, int grown) {
            for (int s = 0; s <= grown; s++) {
                if ((s & ~grown) == 0) {
                    fewest[s | (1 << u)] = fewestWith(u, s);
                }
            }
        }

        /** The clique of u is u and some of its neighbours in s, themselves one clique or none. */
        private int fewestWith(int u, int s) {
            int around = graph.nearInside(u, s);
            int best = 1 + fewest[s];
            for (int t = around; t > 0; t = (t - 1) & around) {
                if (fewest[t] == 1) {
                    best = Math.min(best, 1 + fewest[s & ~t]);
                }
            }
            return best;
        }
    }
}
