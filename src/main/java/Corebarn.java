import java.util.NoSuchElementException;

/** A store of a network whose cores and trusses are known at any time. */
public final class Corebarn {
    private static final int NODE_LIMIT = 20;
    private static final int EDGE_LIMIT = NODE_LIMIT * (NODE_LIMIT - 1) / 2;

    // A set of nodes is one int throughout: bit n stands for node n.
    private final int[] neighbours;
    private final int[] cores;
    // Work space of the trusses, kept so that no call has to make a row.
    private final int[] trussNeighbours;
    private int nodeCount;
    private int edgeCount;
    private int coreChanges;

    /** Creates an empty network. */
    public Corebarn() {
        neighbours = new int[NODE_LIMIT];
        cores = new int[NODE_LIMIT];
        trussNeighbours = new int[NODE_LIMIT];
        nodeCount = 0;
        edgeCount = 0;
        coreChanges = 0;
    }

    // ---- the network

    /** Adds a node without edges and returns its number. */
    public int addNode() throws IllegalStateException {
        if (nodeCount >= NODE_LIMIT) {
            throw new IllegalStateException("there are 20 nodes");
        }
        int node = nodeCount;
        nodeCount++;
        return node;
    }

    /** Adds an edge and returns how many core numbers become greater. */
    public int join(int one, int other)
            throws IndexOutOfBoundsException, IllegalArgumentException, IllegalStateException {
        checkPair(one, other);
        if (contains(neighbours[one], other)) {
            throw new IllegalStateException("there is such an edge");
        }
        neighbours[one] = with(neighbours[one], other);
        neighbours[other] = with(neighbours[other], one);
        edgeCount++;
        return raiseCores(one, other);
    }

    /** Removes an edge and returns how many core numbers become less. */
    public int part(int one, int other)
            throws IndexOutOfBoundsException, IllegalArgumentException, NoSuchElementException {
        checkPair(one, other);
        checkEdge(one, other);
        return cutEdge(one, other);
    }

    /** Removes all edges of a node and returns how many they were. */
    public int isolate(int node) throws IndexOutOfBoundsException {
        checkNode(node);
        int removed = 0;
        for (int other = 0; other < nodeCount; other++) {
            if (contains(neighbours[node], other)) {
                cutEdge(node, other);
                removed++;
            }
        }
        return removed;
    }

    /** Returns the number of nodes. */
    public int nodes() {
        return nodeCount;
    }

    /** Returns the number of edges. */
    public int edges() {
        return edgeCount;
    }

    /** Returns the degree of a node. */
    public int degree(int node) throws IndexOutOfBoundsException {
        checkNode(node);
        return size(neighbours[node]);
    }

    /** Returns a neighbour of a node; index 0 is the one with the lowest number. */
    public int neighbour(int node, int index) throws IndexOutOfBoundsException {
        checkNode(node);
        int passed = 0;
        for (int other = 0; other < nodeCount; other++) {
            if (contains(neighbours[node], other)) {
                if (passed == index) {
                    return other;
                }
                passed++;
            }
        }
        throw new IndexOutOfBoundsException("the node has not so many edges");
    }

    /** Returns whether two nodes are joined by an edge. */
    public boolean areJoined(int one, int other) throws IndexOutOfBoundsException {
        checkNode(one);
        checkNode(other);
        return contains(neighbours[one], other);
    }

    // ---- cores

    /** Returns the core number of a node. */
    public int core(int node) throws IndexOutOfBoundsException {
        checkNode(node);
        return cores[node];
    }

    /** Returns the greatest core number, 0 without nodes. */
    public int degeneracy() {
        int greatest = 0;
        for (int node = 0; node < nodeCount; node++) {
            greatest = Math.max(greatest, cores[node]);
        }
        return greatest;
    }

    /** Returns the number of nodes of the k-core. */
    public int coreSize(int k) throws IllegalArgumentException {
        checkLevel(k);
        return size(coreSet(k));
    }

    /** Returns how many times a core number changed so far. */
    public int changes() {
        return coreChanges;
    }

    // ---- communities

    /** Returns the number of nodes of a node's community of level k, 0 if it has none. */
    public int community(int node, int k) throws IndexOutOfBoundsException, IllegalArgumentException {
        checkNode(node);
        checkLevel(k);
        return size(reach(single(node), coreSet(k)));
    }

    /** Counts the communities of level k. */
    public int communities(int k) throws IllegalArgumentException {
        checkLevel(k);
        return countCommunities(coreSet(k), coreSet(k));
    }

    /** Returns the greatest level at which two nodes belong to the same community. */
    public int together(int one, int other) throws IndexOutOfBoundsException, NoSuchElementException {
        checkNode(one);
        checkNode(other);
        for (int level = Math.min(cores[one], cores[other]); level >= 0; level--) {
            if (contains(reach(single(one), coreSet(level)), other)) {
                return level;
            }
        }
        throw new NoSuchElementException("the nodes belong to the same community at no level");
    }

    /** Counts the different sets of nodes that are a community of some level. */
    public int hierarchy() {
        int count = 0;
        int deepest = degeneracy();
        for (int level = 0; level <= deepest; level++) {
            // A set that is a community of several levels is counted at the last of them alone:
            // there, and only there, one of its nodes has just this core number.
            count += countCommunities(coreSet(level), shellSet(level));
        }
        return count;
    }

    // ---- peeling and density

    /** Returns a node by its place in the peeling order. */
    public int peeled(int place) throws IndexOutOfBoundsException {
        if (place < 0 || place >= nodeCount) {
            throw new IndexOutOfBoundsException("there is no such place");
        }
        int left = allNodes();
        for (int passed = 0; passed < place; passed++) {
            left = without(left, nextToPeel(left));
        }
        return nextToPeel(left);
    }

    /** Returns the number of nodes of the dense part, 0 without nodes. */
    public int denseSize() {
        return size(denseSet());
    }

    /** Returns whether a node belongs to the dense part. */
    public boolean isDense(int node) throws IndexOutOfBoundsException {
        checkNode(node);
        return contains(denseSet(), node);
    }

    /** Returns the edges of the dense part divided by its nodes, 0.0 without nodes. */
    public double density() {
        int dense = denseSet();
        if (dense == 0) {
            return 0.0;
        }
        return (double) edgesWithin(dense) / (double) size(dense);
    }

    // ---- triangles and trusses

    /** Returns the number of nodes that are joined to both ends of an edge. */
    public int support(int one, int other) throws IndexOutOfBoundsException, NoSuchElementException {
        checkNode(one);
        checkNode(other);
        checkEdge(one, other);
        return size(neighbours[one] & neighbours[other]);
    }

    /** Returns the number of triangles. */
    public int triangles() {
        int corners = 0;
        for (int one = 0; one < nodeCount; one++) {
            for (int other = one + 1; other < nodeCount; other++) {
                if (contains(neighbours[one], other)) {
                    corners += size(neighbours[one] & neighbours[other]);
                }
            }
        }
        // Each triangle was met once for each of its three edges.
        return corners / 3;
    }

    /** Returns the truss number of an edge, at least 2. */
    public int truss(int one, int other) throws IndexOutOfBoundsException, NoSuchElementException {
        checkNode(one);
        checkNode(other);
        checkEdge(one, other);
        startTrusses();
        int number = 2;
        for (int k = 3; k <= NODE_LIMIT; k++) {
            shrinkToTruss(k);
            if (contains(trussNeighbours[one], other)) {
                number = k;
            }
        }
        return number;
    }

    /** Returns the number of edges of the k-truss. */
    public int trussSize(int k) throws IllegalArgumentException {
        if (k < 2) {
            throw new IllegalArgumentException("k is less than 2");
        }
        startTrusses();
        shrinkToTruss(k);
        int ends = 0;
        for (int node = 0; node < nodeCount; node++) {
            ends += size(trussNeighbours[node]);
        }
        return ends / 2;
    }

    // ---- what the calls refuse

    private void checkNode(int node) {
        if (node < 0 || node >= nodeCount) {
            throw new IndexOutOfBoundsException("there is no such node");
        }
    }

    private void checkPair(int one, int other) {
        checkNode(one);
        checkNode(other);
        if (one == other) {
            throw new IllegalArgumentException("both nodes are the same");
        }
    }

    private void checkEdge(int one, int other) {
        if (!contains(neighbours[one], other)) {
            throw new NoSuchElementException("there is no such edge");
        }
    }

    private static void checkLevel(int k) {
        if (k < 0) {
            throw new IllegalArgumentException("k is negative");
        }
    }

    // ---- sets of nodes

    private static int single(int node) {
        return 1 << node;
    }

    private static boolean contains(int set, int node) {
        return (set & single(node)) != 0;
    }

    private static int with(int set, int node) {
        return set | single(node);
    }

    private static int without(int set, int node) {
        return set & ~single(node);
    }

    private static int size(int set) {
        return Integer.bitCount(set);
    }

    private int allNodes() {
        return single(nodeCount) - 1;
    }

    private int coreSet(int k) {
        int set = 0;
        for (int node = 0; node < nodeCount; node++) {
            if (cores[node] >= k) {
                set = with(set, node);
            }
        }
        return set;
    }

    /** The nodes whose core number is just this level. */
    private int shellSet(int level) {
        return coreSet(level) & ~coreSet(level + 1);
    }

    private int edgesWithin(int set) {
        int ends = 0;
        for (int node = 0; node < nodeCount; node++) {
            if (contains(set, node)) {
                ends += size(neighbours[node] & set);
            }
        }
        return ends / 2;
    }

    /** All that ways inside the set lead to, from those of the starts that are in the set. */
    private int reach(int starts, int set) {
        int reached = starts & set;
        // A way without a node twice has fewer steps than there are nodes.
        for (int step = 0; step < nodeCount; step++) {
            int wider = reached;
            for (int node = 0; node < nodeCount; node++) {
                if (contains(reached, node)) {
                    wider |= neighbours[node] & set;
                }
            }
            if (wider == reached) {
                return reached;
            }
            reached = wider;
        }
        return reached;
    }

    // ---- core numbers near an edge: the others are as peeling anew would give them

    /** Mends the core numbers behind a new edge and returns how many became greater. */
    private int raiseCores(int one, int other) {
        int level = Math.min(cores[one], cores[other]);
        int near = nearShell(one, other, level);
        return changeCores(supportedPart(near, coreSet(level + 1), level + 1), 1);
    }

    /** Removes an edge, mends the core numbers and returns how many became less. */
    private int cutEdge(int one, int other) {
        int level = Math.min(cores[one], cores[other]);
        neighbours[one] = without(neighbours[one], other);
        neighbours[other] = without(neighbours[other], one);
        edgeCount--;
        int near = nearShell(one, other, level);
        return changeCores(near & ~supportedPart(near, coreSet(level + 1), level), -1);
    }

    /**
     * The only nodes whose core numbers an edge can change: those of its lower end's level
     * to which ways over nodes of that level lead from an end.
     */
    private int nearShell(int one, int other, int level) {
        return reach(with(single(one), other), shellSet(level));
    }

    /** The greatest part of a set whose nodes each have k edges into it or to the nodes above. */
    private int supportedPart(int set, int above, int k) {
        int left = set;
        boolean dropped = true;
        for (int round = 0; dropped && round <= nodeCount; round++) {
            dropped = false;
            for (int node = 0; node < nodeCount; node++) {
                if (contains(left, node) && size(neighbours[node] & (left | above)) < k) {
                    left = without(left, node);
                    dropped = true;
                }
            }
        }
        return left;
    }

    /** Changes the core numbers of a set by a step and returns how many they are. */
    private int changeCores(int set, int step) {
        for (int node = 0; node < nodeCount; node++) {
            if (contains(set, node)) {
                cores[node] += step;
            }
        }
        coreChanges += size(set);
        return size(set);
    }

    // ---- communities, peeling and trusses

    /** Counts the communities within a core that have at least one of the wanted nodes. */
    private int countCommunities(int within, int wanted) {
        int count = 0;
        int open = wanted;
        for (int node = 0; node < nodeCount; node++) {
            if (contains(open, node)) {
                open &= ~reach(single(node), within);
                count++;
            }
        }
        return count;
    }

    /** The node of a set with the fewest edges in it, the lowest of several. */
    private int nextToPeel(int left) {
        int next = 0;
        int fewest = NODE_LIMIT;
        for (int node = 0; node < nodeCount; node++) {
            if (contains(left, node) && size(neighbours[node] & left) < fewest) {
                next = node;
                fewest = size(neighbours[node] & left);
            }
        }
        return next;
    }

    private int denseSet() {
        int left = allNodes();
        int best = left;
        int bestEdges = edgeCount;
        for (int removed = 1; removed < nodeCount; removed++) {
            left = without(left, nextToPeel(left));
            int edges = edgesWithin(left);
            // Two fractions are compared by their cross products, so that nothing is rounded.
            if (edges * size(best) > bestEdges * size(left)) {
                best = left;
                bestEdges = edges;
            }
        }
        return best;
    }

    private void startTrusses() {
        for (int node = 0; node < nodeCount; node++) {
            trussNeighbours[node] = neighbours[node];
        }
    }

    /** Goes on from a lower truss, or from all edges, to the k-truss. */
    private void shrinkToTruss(int k) {
        boolean dropped = true;
        for (int round = 0; dropped && round <= EDGE_LIMIT; round++) {
            dropped = dropWeakEdges(k - 2);
        }
    }

    /** Removes the edges with too few triangles left and returns whether there were any. */
    private boolean dropWeakEdges(int needed) {
        boolean dropped = false;
        for (int one = 0; one < nodeCount; one++) {
            for (int other = one + 1; other < nodeCount; other++) {
                if (contains(trussNeighbours[one], other)
                        && size(trussNeighbours[one] & trussNeighbours[other]) < needed) {
                    trussNeighbours[one] = without(trussNeighbours[one], other);
                    trussNeighbours[other] = without(trussNeighbours[other], one);
                    dropped = true;
                }
            }
        }
        return dropped;
    }
}
