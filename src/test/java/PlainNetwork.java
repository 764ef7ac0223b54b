import java.util.ArrayList;
import java.util.HashSet;
import java.util.List;
import java.util.NoSuchElementException;
import java.util.Set;
import java.util.TreeSet;

/** The document's words read literally: every answer is found anew from the edges alone. */
final class PlainNetwork {
    private int nodeCount = 0;
    private int changes = 0;
    private final Set<Integer> edges = new TreeSet<>();

    int addNode() {
        if (nodeCount == 20) {
            throw new IllegalStateException();
        }
        return nodeCount++;
    }

    int join(int one, int other) {
        checkPair(one, other);
        if (joined(edges, one, other)) {
            throw new IllegalStateException();
        }
        int[] before = coreNumbers();
        edges.add(edge(one, other));
        return noteChanges(before, coreNumbers());
    }

    int part(int one, int other) {
        checkPair(one, other);
        checkEdge(one, other);
        int[] before = coreNumbers();
        edges.remove(edge(one, other));
        return noteChanges(coreNumbers(), before);
    }

    int isolate(int node) {
        checkNode(node);
        List<Integer> friends = neighbours(node);
        for (int friend : friends) {
            part(node, friend);
        }
        return friends.size();
    }

    int nodes() {
        return nodeCount;
    }

    int edges() {
        return edges.size();
    }

    int degree(int node) {
        checkNode(node);
        return neighbours(node).size();
    }

    int neighbour(int node, int index) {
        checkNode(node);
        return neighbours(node).get(index);
    }

    boolean areJoined(int one, int other) {
        checkNode(one);
        checkNode(other);
        return joined(edges, one, other);
    }

    int core(int node) {
        checkNode(node);
        return coreNumbers()[node];
    }

    int degeneracy() {
        int greatest = 0;
        for (int number : coreNumbers()) {
            greatest = Math.max(greatest, number);
        }
        return greatest;
    }

    int coreSize(int k) {
        checkAtLeast(k, 0);
        return coreOf(k).size();
    }

    int changes() {
        return changes;
    }

    int community(int node, int k) {
        checkNode(node);
        checkAtLeast(k, 0);
        for (Set<Integer> community : communitiesOf(k)) {
            if (community.contains(node)) {
                return community.size();
            }
        }
        return 0;
    }

    int communities(int k) {
        checkAtLeast(k, 0);
        return communitiesOf(k).size();
    }

    int together(int one, int other) {
        checkNode(one);
        checkNode(other);
        int greatest = -1;
        for (int k = 0; k <= 20; k++) {
            for (Set<Integer> community : communitiesOf(k)) {
                if (community.contains(one) && community.contains(other)) {
                    greatest = k;
                }
            }
        }
        if (greatest < 0) {
            throw new NoSuchElementException();
        }
        return greatest;
    }

    int hierarchy() {
        Set<Set<Integer>> different = new HashSet<>();
        for (int k = 0; k <= 20; k++) {
            different.addAll(communitiesOf(k));
        }
        return different.size();
    }

    int peeled(int place) {
        List<Set<Integer>> stages = stages();
        if (place < 0 || place >= nodeCount) {
            throw new IndexOutOfBoundsException();
        }
        Set<Integer> gone = new TreeSet<>(stages.get(place));
        gone.removeAll(stages.get(place + 1));
        return gone.iterator().next();
    }

    int denseSize() {
        return densePart().size();
    }

    boolean isDense(int node) {
        checkNode(node);
        return densePart().contains(node);
    }

    double density() {
        Set<Integer> dense = densePart();
        return dense.isEmpty() ? 0.0 : (double) edgesWithin(dense) / (double) dense.size();
    }

    int support(int one, int other) {
        checkNode(one);
        checkNode(other);
        checkEdge(one, other);
        return supportIn(edges, one, other);
    }

    int triangles() {
        int count = 0;
        for (int a = 0; a < nodeCount; a++) {
            for (int b = a + 1; b < nodeCount; b++) {
                for (int c = b + 1; c < nodeCount; c++) {
                    if (joined(edges, a, b) && joined(edges, b, c) && joined(edges, a, c)) {
                        count++;
                    }
                }
            }
        }
        return count;
    }

    int truss(int one, int other) {
        checkNode(one);
        checkNode(other);
        checkEdge(one, other);
        int greatest = 2;
        for (int k = 2; k <= 21; k++) {
            if (joined(trussOf(k), one, other)) {
                greatest = k;
            }
        }
        return greatest;
    }

    int trussSize(int k) {
        checkAtLeast(k, 2);
        return trussOf(k).size();
    }

    private void checkNode(int node) {
        if (node < 0 || node >= nodeCount) {
            throw new IndexOutOfBoundsException();
        }
    }

    private void checkPair(int one, int other) {
        checkNode(one);
        checkNode(other);
        if (one == other) {
            throw new IllegalArgumentException();
        }
    }

    private void checkEdge(int one, int other) {
        if (!joined(edges, one, other)) {
            throw new NoSuchElementException();
        }
    }

    private static void checkAtLeast(int k, int least) {
        if (k < least) {
            throw new IllegalArgumentException();
        }
    }

    private static int edge(int one, int other) {
        return Math.min(one, other) * 100 + Math.max(one, other);
    }

    private static boolean joined(Set<Integer> of, int one, int other) {
        return one != other && of.contains(edge(one, other));
    }

    private List<Integer> neighbours(int node) {
        List<Integer> found = new ArrayList<>();
        for (int other = 0; other < nodeCount; other++) {
            if (joined(edges, node, other)) {
                found.add(other);
            }
        }
        return found;
    }

    private int edgesInto(int node, Set<Integer> set) {
        int count = 0;
        for (int other : neighbours(node)) {
            count += set.contains(other) ? 1 : 0;
        }
        return count;
    }

    private Set<Integer> allNodes() {
        Set<Integer> all = new TreeSet<>();
        for (int node = 0; node < nodeCount; node++) {
            all.add(node);
        }
        return all;
    }

    private Set<Integer> coreOf(int k) {
        Set<Integer> left = allNodes();
        boolean again = true;
        while (again) {
            Set<Integer> before = new TreeSet<>(left);
            again = left.removeIf(node -> edgesInto(node, before) < k);
        }
        return left;
    }

    private int[] coreNumbers() {
        int[] numbers = new int[nodeCount];
        for (int k = 1; k < 20; k++) {
            for (int node : coreOf(k)) {
                numbers[node] = k;
            }
        }
        return numbers;
    }

    private int noteChanges(int[] less, int[] more) {
        int count = 0;
        for (int node = 0; node < nodeCount; node++) {
            if (more[node] < less[node]) {
                throw new AssertionError("a core number went the wrong way");
            }
            count += more[node] > less[node] ? 1 : 0;
        }
        changes += count;
        return count;
    }

    private List<Set<Integer>> communitiesOf(int k) {
        Set<Integer> core = coreOf(k);
        List<Set<Integer>> found = new ArrayList<>();
        Set<Integer> open = new TreeSet<>(core);
        while (!open.isEmpty()) {
            Set<Integer> community = new TreeSet<>();
            collect(open.iterator().next(), core, community);
            open.removeAll(community);
            found.add(community);
        }
        return found;
    }

    private void collect(int node, Set<Integer> core, Set<Integer> community) {
        if (core.contains(node) && community.add(node)) {
            for (int other : neighbours(node)) {
                collect(other, core, community);
            }
        }
    }

    private List<Set<Integer>> stages() {
        List<Set<Integer>> stages = new ArrayList<>();
        Set<Integer> left = allNodes();
        stages.add(new TreeSet<>(left));
        while (!left.isEmpty()) {
            int next = left.iterator().next();
            for (int node : left) {
                if (edgesInto(node, left) < edgesInto(next, left)) {
                    next = node;
                }
            }
            left.remove(next);
            stages.add(new TreeSet<>(left));
        }
        return stages;
    }

    private int edgesWithin(Set<Integer> set) {
        int count = 0;
        for (int code : edges) {
            count += set.contains(code / 100) && set.contains(code % 100) ? 1 : 0;
        }
        return count;
    }

    private Set<Integer> densePart() {
        Set<Integer> best = new TreeSet<>();
        for (Set<Integer> stage : stages()) {
            boolean better = best.isEmpty() || !stage.isEmpty()
                    && edgesWithin(stage) * best.size() > edgesWithin(best) * stage.size();
            if (better) {
                best = stage;
            }
        }
        return best;
    }

    private int supportIn(Set<Integer> of, int one, int other) {
        int count = 0;
        for (int third = 0; third < nodeCount; third++) {
            count += joined(of, one, third) && joined(of, other, third) ? 1 : 0;
        }
        return count;
    }

    private Set<Integer> trussOf(int k) {
        Set<Integer> left = new TreeSet<>(edges);
        boolean again = true;
        while (again) {
            Set<Integer> before = new TreeSet<>(left);
            again = left.removeIf(code -> supportIn(before, code / 100, code % 100) < k - 2);
        }
        return left;
    }
}
