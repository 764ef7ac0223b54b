/** Promises 19 to 26: a test for each sentence that names a boundary case. */
public final class PeelingBoundaries extends Fixture {
    private static final int LAST = 19;

    public static void main(String[] args) {
        PeelingBoundaries tests = new PeelingBoundaries();
        tests.promise19LeastAndGreatestPlace();
        tests.promise19TheLowestOfSeveral();
        tests.promise19EdgesToNodesThatAreLeft();
        tests.promise19Refusals();
        tests.promise20LeastAndGreatestAnswer();
        tests.promise20SetsThatAreLeftAlone();
        tests.promise20TheMostNodesOfSeveral();
        tests.promise21IsDense();
        tests.promise21Refusals();
        tests.promise22LeastAndGreatestAnswer();
        tests.promise22DividedAsDoubles();
        tests.promise23LeastAndGreatestAnswer();
        tests.promise23Refusals();
        tests.promise24Triangles();
        tests.promise25LeastAndGreatestAnswer();
        tests.promise25EdgesThatAreLeft();
        tests.promise25Refusals();
        tests.promise26LeastAndGreatestK();
        tests.promise26Refusals();
        tests.check.close("PeelingBoundaries");
    }

    /** A lone node 0, the triangles 1 2 3 and 4 5 6: both are as dense together as one alone. */
    private static Corebarn twoTriangles() {
        return joined(7, 1, 2, 2, 3, 1, 3, 4, 5, 5, 6, 4, 6);
    }

    /**
     * Nodes 0 and 1 are each joined to all of 2 to 11, and 12 to 15 and 16 to 19 to one another.
     * The set 0 to 11 has the most edges for its nodes of all sets, but peeling never leaves it.
     */
    private static Corebarn hidden() {
        Corebarn barn = nodes(20);
        for (int node = 2; node < 12; node++) {
            barn.join(0, node);
            barn.join(1, node);
        }
        for (int first = 12; first < 20; first += 4) {
            for (int one = first; one < first + 4; one++) {
                for (int other = one + 1; other < first + 4; other++) {
                    barn.join(one, other);
                }
            }
        }
        return barn;
    }

    /** The edge 0-1 at which two triangles stand, 0 1 2 and 0 1 3. */
    private static Corebarn kite() {
        return joined(4, 0, 1, 0, 2, 1, 2, 0, 3, 1, 3);
    }

    // ---- Promise 19: peeled

    private void promise19LeastAndGreatestPlace() {
        for (Network network : NETWORKS) {
            if (network.count > 0) {
                int last = network.count - 1;
                Object first = network == VILLAGE ? 8 : 0;
                Object behind = network == VILLAGE ? 3 : last;
                dueAndKept(network, "peeled(0)", first, x -> x.peeled(0));
                dueAndKept(network, "peeled(" + last + ")", behind, x -> x.peeled(last));
            }
        }
    }

    private void promise19TheLowestOfSeveral() {
        for (int number = 0; number <= LAST; number++) {
            int place = number;
            due(BARE, "peeled(" + place + ")", place, x -> x.peeled(place));
            due(FULL, "peeled(" + place + ")", place, x -> x.peeled(place));
            check.due("peeled(" + place + ") of a ring", place, () -> ring(20).peeled(place));
            check.due("peeled(" + place + ") of stairs", place, () -> stairs().peeled(place));
        }
        int[] order = {1, 2, 0, 3};
        for (int place = 0; place < 4; place++) {
            int asked = place;
            check.due("peeled(" + place + ") of a star of four: 0 has one edge when 1 and 2 are gone",
                    order[place], () -> star(4, 0).peeled(asked));
        }
    }

    private void promise19EdgesToNodesThatAreLeft() {
        // Node 0 has the lowest number of those with two edges, but 3 loses one of them before.
        int[] order = {1, 3, 0, 2, 4};
        for (int place = 0; place < 5; place++) {
            int asked = place;
            check.due("peeled(" + place + ") of 1-3-0-2-4", order[place],
                    () -> joined(5, 1, 3, 3, 0, 0, 2, 2, 4).peeled(asked));
        }
    }

    private void promise19Refusals() {
        refusesNoNode("peeled", (x, place) -> x.peeled(place));
    }

    // ---- Promise 20: denseSize

    private void promise20LeastAndGreatestAnswer() {
        int[] sizes = {0, 1, 2, 4, 20, 20};
        for (int i = 0; i < sizes.length; i++) {
            dueAndKept(NETWORKS.get(i), "denseSize()", sizes[i], x -> x.denseSize());
        }
        check.due("denseSize() with all nodes but two isolated", 2,
                () -> joined(20, LAST, 18).denseSize());
        check.due("denseSize() of stairs, 6 to 19", 14, () -> stairs().denseSize());
        check.due("denseSize() of a ring", 20, () -> ring(20).denseSize());
    }

    private void promise20SetsThatAreLeftAlone() {
        check.due("denseSize() where peeling never leaves the densest set", 20,
                () -> hidden().denseSize());
        check.due("density() where peeling never leaves the densest set", 32.0 / 20.0,
                () -> hidden().density());
    }

    private void promise20TheMostNodesOfSeveral() {
        check.due("denseSize() of several, not the first set", 6, () -> twoTriangles().denseSize());
        check.due("density() of several", 1.0, () -> twoTriangles().density());
        check.due("denseSize() of several, the first set", 4,
                () -> joined(4, 0, 1, 2, 3).denseSize());
        check.due("denseSize() of ten pairs", 20, () -> joined(20, 0, 1, 2, 3, 4, 5, 6, 7, 8, 9,
                10, 11, 12, 13, 14, 15, 16, 17, 18, 19).denseSize());
    }

    // ---- Promise 21: isDense

    private void promise21IsDense() {
        dueAndKept(ONE, "isDense(0)", true, x -> x.isDense(0));
        for (int number = 0; number <= LAST; number++) {
            int node = number;
            due(BARE, "isDense(" + node + ")", true, x -> x.isDense(node));
            due(FULL, "isDense(" + node + ")", true, x -> x.isDense(node));
            check.due("isDense(" + node + ") of stairs", node >= 6,
                    () -> stairs().isDense(node));
            check.due("isDense(" + node + ") of the pair 18-19", node >= 18,
                    () -> joined(20, LAST, 18).isDense(node));
            if (node < 7) {
                check.due("isDense(" + node + ") of several", node > 0,
                        () -> twoTriangles().isDense(node));
            }
        }
        dueAndKept(FULL, "isDense(19)", true, x -> x.isDense(LAST));
        dueAndKept(VILLAGE, "isDense(4)", false, x -> x.isDense(4));
    }

    private void promise21Refusals() {
        refusesNoNode("isDense", (x, node) -> x.isDense(node));
    }

    // ---- Promise 22: density

    private void promise22LeastAndGreatestAnswer() {
        double[] densities = {0.0, 0.0, 0.5, 1.5, 0.0, 9.5};
        for (int i = 0; i < densities.length; i++) {
            dueAndKept(NETWORKS.get(i), "density()", densities[i], x -> x.density());
        }
        Corebarn barn = complete(20);
        for (int node = 0; node <= LAST; node++) {
            barn.isolate(node);
        }
        check.due("density() behind all nodes are isolated", 0.0, () -> barn.density());
    }

    private void promise22DividedAsDoubles() {
        for (int count = 1; count <= 20; count++) {
            int asked = count;
            check.due("density() of a way of " + asked, (double) (asked - 1) / (double) asked,
                    () -> way(asked).density());
            check.due("density() of " + asked + " nodes all joined", (asked - 1) / 2.0,
                    () -> complete(asked).density());
        }
        check.due("density() of stairs", 75.0 / 14.0, () -> stairs().density());
    }

    // ---- Promise 23: support

    private void promise23LeastAndGreatestAnswer() {
        dueAndKept(PAIR, "support(0, 1)", 0, x -> x.support(0, 1));
        dueAndKept(PAIR, "support(1, 0)", 0, x -> x.support(1, 0));
        dueAndKept(FULL, "support(0, 19)", 18, x -> x.support(0, LAST));
        dueAndKept(FULL, "support(19, 18)", 18, x -> x.support(LAST, 18));
        check.due("support(0, 1) of a kite", 2, () -> kite().support(0, 1));
        check.due("support(3, 1) of a kite", 1, () -> kite().support(3, 1));
        check.due("support(0, 1) in a ring of four", 0, () -> ring(4).support(0, 1));
        for (int count = 2; count <= 20; count++) {
            int asked = count;
            check.due("support(0, last) of " + asked + " nodes all joined", asked - 2,
                    () -> complete(asked).support(0, asked - 1));
        }
    }

    private void promise23Refusals() {
        refusesNoNodeOfTwo("support", (x, one, other) -> x.support(one, other));
        refusesNoEdge("support", (x, one, other) -> x.support(one, other));
    }

    private void refusesNoEdge(String name, CallOfTwo call) {
        for (Network network : NETWORKS) {
            for (int number = 0; number < network.count; number++) {
                int node = number;
                refused(network, name + "(" + node + ", itself)", NO_ELEMENT,
                        x -> call.on(x, node, node));
            }
        }
        for (int number = 1; number <= LAST; number++) {
            int node = number;
            refused(BARE, name + "(0, " + node + ")", NO_ELEMENT, x -> call.on(x, 0, node));
            refused(BARE, name + "(" + node + ", 0)", NO_ELEMENT, x -> call.on(x, node, 0));
        }
        refused(VILLAGE, name + "(2, 4) with a node between", NO_ELEMENT, x -> call.on(x, 2, 4));
        Corebarn barn = complete(20);
        barn.part(18, LAST);
        check.due(name + "(19, 18) behind part", NO_ELEMENT, () -> call.on(barn, LAST, 18));
    }

    // ---- Promise 24: triangles

    private void promise24Triangles() {
        int[] counts = {0, 0, 0, 5, 0, 1140};
        for (int i = 0; i < counts.length; i++) {
            dueAndKept(NETWORKS.get(i), "triangles()", counts[i], x -> x.triangles());
        }
        for (int count = 1; count <= 20; count++) {
            int asked = count;
            check.due("triangles() of " + asked + " nodes all joined",
                    asked * (asked - 1) * (asked - 2) / 6, () -> complete(asked).triangles());
        }
        check.due("triangles() of the last three nodes", 1,
                () -> joined(20, 17, 18, 18, 19, 17, 19).triangles());
        check.due("triangles() of a way of three", 0, () -> way(3).triangles());
        check.due("triangles() of a star", 0, () -> star(20, 0).triangles());
        check.due("triangles() of a kite", 2, () -> kite().triangles());
        Corebarn barn = complete(20);
        barn.part(0, LAST);
        check.due("triangles() of all edges but one", 1122, () -> barn.triangles());
    }

    // ---- Promise 25: truss

    private void promise25LeastAndGreatestAnswer() {
        dueAndKept(PAIR, "truss(0, 1)", 2, x -> x.truss(0, 1));
        dueAndKept(PAIR, "truss(1, 0)", 2, x -> x.truss(1, 0));
        dueAndKept(FULL, "truss(0, 19)", 20, x -> x.truss(0, LAST));
        dueAndKept(FULL, "truss(19, 18)", 20, x -> x.truss(LAST, 18));
        check.due("truss(0, 19) of a ring", 2, () -> ring(20).truss(0, LAST));
        for (int count = 2; count <= 20; count++) {
            int asked = count;
            check.due("truss(last, 0) of " + asked + " nodes all joined", asked,
                    () -> complete(asked).truss(asked - 1, 0));
        }
    }

    private void promise25EdgesThatAreLeft() {
        check.due("truss(0, 1) of a kite, of support 2", 3, () -> kite().truss(0, 1));
        check.due("truss(0, 1) of a book of 18 triangles", 3, () -> book().truss(0, 1));
        check.due("truss(0, 19) of a book of 18 triangles", 3, () -> book().truss(0, LAST));
        village("truss(3, 4) a bridge", 2, x -> x.truss(3, 4));
        Corebarn barn = complete(20);
        barn.part(0, LAST);
        check.due("truss(0, 1) of all edges but one", 19, () -> barn.truss(0, 1));
        check.due("truss(1, 2) of all edges but one", 19, () -> barn.truss(1, 2));
        check.due("support(1, 2) of all edges but one", 18, () -> barn.support(1, 2));
    }

    /** The edge 0-1 and a triangle on it with each other node. */
    private static Corebarn book() {
        Corebarn barn = joined(20, 0, 1);
        for (int node = 2; node <= LAST; node++) {
            barn.join(0, node);
            barn.join(1, node);
        }
        return barn;
    }

    private void promise25Refusals() {
        refusesNoNodeOfTwo("truss", (x, one, other) -> x.truss(one, other));
        refusesNoEdge("truss", (x, one, other) -> x.truss(one, other));
    }

    // ---- Promise 26: trussSize

    private void promise26LeastAndGreatestK() {
        int[] greatest = {2, 2, 2, 4, 2, 20};
        for (int i = 0; i < greatest.length; i++) {
            Network network = NETWORKS.get(i);
            dueAndKept(network, "trussSize(2)", network.make().edges(), x -> x.trussSize(2));
            for (int k : new int[] {greatest[i] + 1, 21, 22, 32, 34, MAX - 1, MAX}) {
                dueAndKept(network, "trussSize(" + k + ")", 0, x -> x.trussSize(k));
            }
        }
        for (int count = 2; count <= 20; count++) {
            int asked = count;
            int edges = asked * (asked - 1) / 2;
            check.due("trussSize(" + asked + ") of so many nodes all joined", edges,
                    () -> complete(asked).trussSize(asked));
            check.due("trussSize(" + (asked + 1) + ") of one node less", 0,
                    () -> complete(asked).trussSize(asked + 1));
            due(FULL, "trussSize(" + asked + ")", 190, x -> x.trussSize(asked));
        }
        check.due("trussSize(3) of a book", 37, () -> book().trussSize(3));
        check.due("trussSize(4) of a book", 0, () -> book().trussSize(4));
    }

    private void promise26Refusals() {
        refusesLevelsBelow(2, "trussSize", (x, k) -> x.trussSize(k));
    }
}
