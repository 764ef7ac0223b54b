/** Promises 1 to 10: a test for each sentence that names a boundary case. */
public final class NetworkBoundaries extends Fixture {
    private static final int LAST = 19;

    public static void main(String[] args) {
        NetworkBoundaries tests = new NetworkBoundaries();
        tests.promise1EverythingOfANewObject();
        tests.promise1ObjectsShareNothing();
        tests.promise2Numbers();
        tests.promise2WithoutEdges();
        tests.promise2NoMoreThan20();
        tests.promise3LeastAndGreatestAnswer();
        tests.promise3LeastAndGreatestNodes();
        tests.promise3Refusals();
        tests.promise4LeastAndGreatestAnswer();
        tests.promise4LeastAndGreatestNodes();
        tests.promise4Refusals();
        tests.promise5LeastAndGreatestAnswer();
        tests.promise5AllEdgesOfTheNodeAndNoOther();
        tests.promise5Refusals();
        tests.promise6Nodes();
        tests.promise7Edges();
        tests.promise8Degree();
        tests.promise9Neighbour();
        tests.promise9Refusals();
        tests.promise10AreJoined();
        tests.promise10TheSame();
        tests.check.close("NetworkBoundaries");
    }

    // ---- Promise 1: creates an empty network

    private void promise1EverythingOfANewObject() {
        dueAndKept(EMPTY, "nodes()", 0, x -> x.nodes());
        dueAndKept(EMPTY, "edges()", 0, x -> x.edges());
        dueAndKept(EMPTY, "degeneracy()", 0, x -> x.degeneracy());
        dueAndKept(EMPTY, "changes()", 0, x -> x.changes());
        dueAndKept(EMPTY, "hierarchy()", 0, x -> x.hierarchy());
        dueAndKept(EMPTY, "denseSize()", 0, x -> x.denseSize());
        dueAndKept(EMPTY, "density()", 0.0, x -> x.density());
        dueAndKept(EMPTY, "triangles()", 0, x -> x.triangles());
        for (int k : new int[] {0, 1, 19, 20, MAX}) {
            dueAndKept(EMPTY, "coreSize(" + k + ")", 0, x -> x.coreSize(k));
            dueAndKept(EMPTY, "communities(" + k + ")", 0, x -> x.communities(k));
        }
        for (int k : new int[] {2, 3, 20, 21, MAX}) {
            dueAndKept(EMPTY, "trussSize(" + k + ")", 0, x -> x.trussSize(k));
        }
        due(EMPTY, "addNode()", 0, x -> x.addNode());
    }

    private void promise1ObjectsShareNothing() {
        Corebarn first = new Corebarn();
        Corebarn second = new Corebarn();
        first.addNode();
        first.addNode();
        first.join(0, 1);
        check.due("nodes() of another object", 0, () -> second.nodes());
        check.due("edges() of another object", 0, () -> second.edges());
        check.due("changes() of another object", 0, () -> second.changes());
        check.due("addNode() of another object", 0, () -> second.addNode());
        check.due("addNode() of another object again", 1, () -> second.addNode());
        check.due("areJoined(0, 1) of another object", false, () -> second.areJoined(0, 1));
        check.due("core(0) of another object", 0, () -> second.core(0));
    }

    // ---- Promise 2: adds a node without edges, returns its number, not with 20 nodes

    private void promise2Numbers() {
        Corebarn barn = new Corebarn();
        for (int number = 0; number <= LAST; number++) {
            int due = number;
            check.due("degree(" + due + ") before there is such a node", NO_INDEX,
                    () -> barn.degree(due));
            check.due("addNode() number " + due, due, () -> barn.addNode());
            check.due("degree(" + due + ") behind it", 0, () -> barn.degree(due));
            check.due("nodes() behind it", due + 1, () -> barn.nodes());
        }
    }

    private void promise2WithoutEdges() {
        Corebarn barn = complete(19);
        check.due("addNode() beside 19 nodes all joined", 19, () -> barn.addNode());
        check.due("degree(19)", 0, () -> barn.degree(19));
        check.due("core(19)", 0, () -> barn.core(19));
        check.due("neighbour(19, 0)", NO_INDEX, () -> barn.neighbour(19, 0));
        check.due("areJoined(19, 0)", false, () -> barn.areJoined(19, 0));
        check.due("areJoined(18, 19)", false, () -> barn.areJoined(18, 19));
        check.due("degree(0)", 18, () -> barn.degree(0));
        check.due("core(0)", 18, () -> barn.core(0));
        check.due("edges()", 171, () -> barn.edges());
        check.due("changes()", 342, () -> barn.changes());
    }

    private void promise2NoMoreThan20() {
        refused(BARE, "addNode()", NO_STATE, x -> x.addNode());
        refused(FULL, "addNode()", NO_STATE, x -> x.addNode());
        Corebarn barn = star(20, 3);
        barn.isolate(3);
        for (int again = 0; again < 3; again++) {
            check.due("addNode() with 20 nodes, one of them isolated", NO_STATE,
                    () -> barn.addNode());
            check.due("nodes() behind it", 20, () -> barn.nodes());
        }
        due(VILLAGE, "addNode() refused in another object alone", 11, x -> x.addNode());
    }

    // ---- Promise 3: join

    private void promise3LeastAndGreatestAnswer() {
        check.due("join(0, 1) of two nodes", 2, () -> nodes(2).join(0, 1));
        check.due("join(0, 19) makes a ring of 20", 20, () -> way(20).join(0, 19));
        check.due("join(18, 19) the last edge of all", 20, () -> fullBut(18, 19).join(18, 19));
        check.due("join(1, 0) the last edge of all", 20, () -> fullBut(0, 1).join(1, 0));
        check.due("join(0, 10) a chord", 0, () -> ring(20).join(0, 10));
        check.due("join(19, 0) a lone node to all others", 1, () -> loneBesideAll().join(19, 0));
        check.due("join(0, 19) a lone node to all others", 1, () -> loneBesideAll().join(0, 19));
    }

    private static Corebarn fullBut(int one, int other) {
        Corebarn barn = complete(20);
        barn.part(one, other);
        return barn;
    }

    private static Corebarn loneBesideAll() {
        Corebarn barn = complete(19);
        barn.addNode();
        return barn;
    }

    private static Corebarn tailAtAll() {
        Corebarn barn = loneBesideAll();
        barn.join(0, LAST);
        return barn;
    }

    private void promise3LeastAndGreatestNodes() {
        int[][] pairs = {{0, 1}, {1, 0}, {0, LAST}, {LAST, 0}, {LAST - 1, LAST}, {LAST, LAST - 1}};
        for (int[] pair : pairs) {
            Corebarn barn = nodes(20);
            String name = "(" + pair[0] + ", " + pair[1] + ")";
            check.due("join" + name, 2, () -> barn.join(pair[0], pair[1]));
            check.due("areJoined" + name, true, () -> barn.areJoined(pair[0], pair[1]));
            check.due("areJoined back", true, () -> barn.areJoined(pair[1], pair[0]));
            check.due("edges() behind join" + name, 1, () -> barn.edges());
            check.due("changes() behind join" + name, 2, () -> barn.changes());
            check.due("coreSize(1) behind join" + name, 2, () -> barn.coreSize(1));
            check.due("join" + name + " again", NO_STATE, () -> barn.join(pair[0], pair[1]));
            check.due("join back", NO_STATE, () -> barn.join(pair[1], pair[0]));
            check.due("part" + name, 2, () -> barn.part(pair[0], pair[1]));
            check.due("join" + name + " behind part", 2, () -> barn.join(pair[0], pair[1]));
        }
    }

    private void promise3Refusals() {
        refusesNoNodeOfTwo("join", (x, one, other) -> x.join(one, other));
        for (Network network : NETWORKS) {
            for (int number = 0; number < network.count; number++) {
                int node = number;
                refused(network, "join(" + node + ", itself)", NO_ARGUMENT,
                        x -> x.join(node, node));
            }
        }
        refused(PAIR, "join(0, 1)", NO_STATE, x -> x.join(0, 1));
        refused(PAIR, "join(1, 0)", NO_STATE, x -> x.join(1, 0));
        for (int one = 0; one < 20; one += 19) {
            int node = one;
            for (int number = 1; number < 19; number++) {
                int other = number;
                refused(FULL, "join(" + node + ", " + other + ")", NO_STATE,
                        x -> x.join(node, other));
                refused(FULL, "join(" + other + ", " + node + ")", NO_STATE,
                        x -> x.join(other, node));
            }
        }
    }

    // ---- Promise 4: part

    private void promise4LeastAndGreatestAnswer() {
        check.due("part(0, 1) of a pair", 2, () -> joined(2, 0, 1).part(0, 1));
        check.due("part(19, 0) opens a ring of 20", 20, () -> ring(20).part(19, 0));
        check.due("part(0, 1) of the full network", 20, () -> complete(20).part(0, 1));
        check.due("part(19, 18) of the full network", 20, () -> complete(20).part(19, 18));
        check.due("part(9, 10) in the middle of a way", 0, () -> way(20).part(9, 10));
        check.due("part(19, 0) a tip of a star", 1, () -> star(20, 0).part(19, 0));
        check.due("part(0, 19) a tail at all others", 1, () -> tailAtAll().part(0, 19));
        check.due("part(19, 0) a tail at all others", 1, () -> tailAtAll().part(19, 0));
    }

    private void promise4LeastAndGreatestNodes() {
        int[][] pairs = {{0, 1}, {1, 0}, {0, LAST}, {LAST, 0}, {LAST - 1, LAST}, {LAST, LAST - 1}};
        for (int[] pair : pairs) {
            Corebarn barn = complete(20);
            String name = "(" + pair[0] + ", " + pair[1] + ")";
            check.due("part" + name, 20, () -> barn.part(pair[0], pair[1]));
            check.due("areJoined" + name, false, () -> barn.areJoined(pair[0], pair[1]));
            check.due("areJoined back", false, () -> barn.areJoined(pair[1], pair[0]));
            check.due("edges() behind part" + name, 189, () -> barn.edges());
            check.due("changes() behind part" + name, 400, () -> barn.changes());
            check.due("part" + name + " again", NO_ELEMENT, () -> barn.part(pair[0], pair[1]));
            check.due("part back", NO_ELEMENT, () -> barn.part(pair[1], pair[0]));
            check.due("edges() behind refusals", 189, () -> barn.edges());
        }
    }

    private void promise4Refusals() {
        refusesNoNodeOfTwo("part", (x, one, other) -> x.part(one, other));
        for (Network network : NETWORKS) {
            for (int number = 0; number < network.count; number++) {
                int node = number;
                refused(network, "part(" + node + ", itself)", NO_ARGUMENT,
                        x -> x.part(node, node));
            }
        }
        for (int number = 1; number <= LAST; number++) {
            int other = number;
            refused(BARE, "part(0, " + other + ")", NO_ELEMENT, x -> x.part(0, other));
            refused(BARE, "part(" + other + ", 0)", NO_ELEMENT, x -> x.part(other, 0));
        }
        refused(VILLAGE, "part(0, 4) with a way but no edge", NO_ELEMENT, x -> x.part(0, 4));
        refused(VILLAGE, "part(8, 10)", NO_ELEMENT, x -> x.part(8, 10));
    }

    // ---- Promise 5: isolate

    private void promise5LeastAndGreatestAnswer() {
        for (int number = 0; number <= LAST; number += LAST) {
            int node = number;
            dueAndKept(BARE, "isolate(" + node + ")", 0, x -> x.isolate(node));
            check.due("isolate(" + node + ") the middle of a star", 19,
                    () -> star(20, node).isolate(node));
            check.due("isolate(" + node + ") a tip of a star", 1,
                    () -> star(20, 7).isolate(node));
            due(FULL, "isolate(" + node + ")", 19, x -> x.isolate(node));
        }
        dueAndKept(ONE, "isolate(0)", 0, x -> x.isolate(0));
        dueAndKept(VILLAGE, "isolate(8)", 0, x -> x.isolate(8));
        due(PAIR, "isolate(1)", 1, x -> x.isolate(1));
    }

    private void promise5AllEdgesOfTheNodeAndNoOther() {
        for (int number : new int[] {0, 1, 10, LAST}) {
            int node = number;
            Corebarn barn = complete(20);
            check.due("isolate(" + node + ")", 19, () -> barn.isolate(node));
            check.due("degree(" + node + ")", 0, () -> barn.degree(node));
            check.due("core(" + node + ")", 0, () -> barn.core(node));
            check.due("edges() behind it", 171, () -> barn.edges());
            check.due("nodes() behind it", 20, () -> barn.nodes());
            check.due("changes() behind it", 380 + 38, () -> barn.changes());
            for (int other = 0; other <= LAST; other++) {
                int asked = other;
                check.due("degree(" + asked + ") behind isolate(" + node + ")",
                        asked == node ? 0 : 18, () -> barn.degree(asked));
                check.due("core(" + asked + ") behind isolate(" + node + ")",
                        asked == node ? 0 : 18, () -> barn.core(asked));
                check.due("areJoined(" + asked + ", " + node + ") behind isolate", false,
                        () -> barn.areJoined(asked, node));
            }
            check.due("isolate(" + node + ") again", 0, () -> barn.isolate(node));
            check.due("edges() behind both", 171, () -> barn.edges());
        }
    }

    private void promise5Refusals() {
        refusesNoNode("isolate", (x, node) -> x.isolate(node));
    }

    // ---- Promises 6 and 7: the numbers of nodes and edges

    private void promise6Nodes() {
        for (Network network : NETWORKS) {
            dueAndKept(network, "nodes()", network.count, x -> x.nodes());
        }
        Corebarn barn = nodes(20);
        Check.outcome(() -> barn.addNode());
        check.due("nodes() behind a refused addNode()", 20, () -> barn.nodes());
        barn.join(0, LAST);
        barn.part(0, LAST);
        barn.isolate(LAST);
        check.due("nodes() behind join, part and isolate", 20, () -> barn.nodes());
    }

    private void promise7Edges() {
        int[] counts = {0, 0, 1, 12, 0, 190};
        for (int i = 0; i < counts.length; i++) {
            dueAndKept(NETWORKS.get(i), "edges()", counts[i], x -> x.edges());
        }
        Corebarn barn = complete(20);
        Check.outcome(() -> barn.join(0, 1));
        check.due("edges() behind a refused join", 190, () -> barn.edges());
        int left = 190;
        for (int node = 0; node <= LAST; node++) {
            barn.isolate(node);
            left -= LAST - node;
            check.due("edges() behind isolate(" + node + ")", left, () -> barn.edges());
        }
        Check.outcome(() -> barn.part(0, 1));
        check.due("edges() behind a refused part", 0, () -> barn.edges());
    }

    // ---- Promise 8: degree

    private void promise8Degree() {
        for (int number = 0; number <= LAST; number++) {
            int node = number;
            due(BARE, "degree(" + node + ")", 0, x -> x.degree(node));
            due(FULL, "degree(" + node + ")", 19, x -> x.degree(node));
            check.due("degree(" + node + ") in a star", node == 4 ? 19 : 1,
                    () -> star(20, 4).degree(node));
            check.due("degree(" + node + ") in stairs", node < 10 ? node : node - 1,
                    () -> stairs().degree(node));
        }
        dueAndKept(FULL, "degree(19)", 19, x -> x.degree(LAST));
        refusesNoNode("degree", (x, node) -> x.degree(node));
    }

    // ---- Promise 9: neighbour

    private void promise9Neighbour() {
        for (int number = 0; number <= LAST; number++) {
            int node = number;
            Corebarn barn = complete(20);
            for (int place = 0; place < 19; place++) {
                int index = place;
                check.due("neighbour(" + node + ", " + index + ") of all",
                        index < node ? index : index + 1, () -> barn.neighbour(node, index));
            }
            check.due("neighbour(" + node + ", 19) of all", NO_INDEX,
                    () -> barn.neighbour(node, 19));
        }
        Corebarn ring = ring(20);
        check.due("neighbour(0, 0) in a ring", 1, () -> ring.neighbour(0, 0));
        check.due("neighbour(0, 1) in a ring", 19, () -> ring.neighbour(0, 1));
        check.due("neighbour(19, 0) in a ring", 0, () -> ring.neighbour(19, 0));
        check.due("neighbour(19, 1) in a ring", 18, () -> ring.neighbour(19, 1));
        ring.part(0, 1);
        check.due("neighbour(0, 0) behind part(0, 1)", 19, () -> ring.neighbour(0, 0));
        check.due("neighbour(0, 1) behind part(0, 1)", NO_INDEX, () -> ring.neighbour(0, 1));
        dueAndKept(FULL, "neighbour(19, 18)", 18, x -> x.neighbour(19, 18));
    }

    private void promise9Refusals() {
        for (int index : new int[] {0, 1, -1, MIN, MAX}) {
            refusesNoNode("neighbour with index " + index, (x, node) -> x.neighbour(node, index));
        }
        for (Network network : NETWORKS) {
            for (int node = 0; node < network.count; node++) {
                refusesOutsideIndex(network, node);
            }
        }
    }

    private void refusesOutsideIndex(Network network, int node) {
        for (int index : outside(network.make().degree(node))) {
            refused(network, "neighbour(" + node + ", " + index + ")", NO_INDEX,
                    x -> x.neighbour(node, index));
        }
    }

    // ---- Promise 10: areJoined

    private void promise10AreJoined() {
        for (int number = 1; number <= LAST; number++) {
            int node = number;
            due(FULL, "areJoined(0, " + node + ")", true, x -> x.areJoined(0, node));
            due(FULL, "areJoined(" + node + ", 0)", true, x -> x.areJoined(node, 0));
            due(BARE, "areJoined(0, " + node + ")", false, x -> x.areJoined(0, node));
            due(BARE, "areJoined(" + node + ", 0)", false, x -> x.areJoined(node, 0));
        }
        dueAndKept(FULL, "areJoined(18, 19)", true, x -> x.areJoined(18, 19));
        dueAndKept(VILLAGE, "areJoined(0, 4) with a way but no edge", false,
                x -> x.areJoined(0, 4));
        refusesNoNodeOfTwo("areJoined", (x, one, other) -> x.areJoined(one, other));
    }

    private void promise10TheSame() {
        for (Network network : NETWORKS) {
            for (int number = 0; number < network.count; number++) {
                int node = number;
                dueAndKept(network, "areJoined(" + node + ", itself)", false,
                        x -> x.areJoined(node, node));
            }
        }
    }
}
