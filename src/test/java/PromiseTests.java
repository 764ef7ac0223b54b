/** For each promise of the document its ordinary inputs, its edges and its wrong inputs. */
public final class PromiseTests extends Fixture {
    public static void main(String[] args) {
        PromiseTests tests = new PromiseTests();
        tests.promise1NewObject();
        tests.promise2AddNode();
        tests.promise3Join();
        tests.promise4Part();
        tests.promise5Isolate();
        tests.promises6And7NodesAndEdges();
        tests.promise8Degree();
        tests.promise9Neighbour();
        tests.promise10AreJoined();
        tests.promise11Core();
        tests.promise12Degeneracy();
        tests.promise13CoreSize();
        tests.promise14Changes();
        tests.promise15Community();
        tests.promise16Communities();
        tests.promise17Together();
        tests.promise18Hierarchy();
        tests.promise19Peeled();
        tests.promises20To22DensePart();
        tests.promise23Support();
        tests.promise24Triangles();
        tests.promise25Truss();
        tests.promise26TrussSize();
        tests.objectsShareNothing();
        tests.check.close("PromiseTests");
    }

    private static String state(Corebarn barn) {
        StringBuilder text = new StringBuilder();
        text.append(barn.nodes()).append(' ').append(barn.edges()).append(' ').append(barn.changes());
        for (int node = 0; node < barn.nodes(); node++) {
            text.append("; ").append(barn.core(node)).append(':');
            for (int index = 0; index < barn.degree(node); index++) {
                text.append(' ').append(barn.neighbour(node, index));
            }
        }
        return text.toString();
    }

    private void promise1NewObject() {
        Corebarn barn = new Corebarn();
        check.due("new: nodes()", 0, () -> barn.nodes());
        check.due("new: edges()", 0, () -> barn.edges());
        check.due("new: changes()", 0, () -> barn.changes());
        check.due("new: degeneracy()", 0, () -> barn.degeneracy());
        check.due("new: core(0)", NO_INDEX, () -> barn.core(0));
        check.due("new: coreSize(0)", 0, () -> barn.coreSize(0));
        check.due("new: communities(0)", 0, () -> barn.communities(0));
        check.due("new: hierarchy()", 0, () -> barn.hierarchy());
        check.due("new: peeled(0)", NO_INDEX, () -> barn.peeled(0));
        check.due("new: denseSize()", 0, () -> barn.denseSize());
        check.due("new: density()", 0.0, () -> barn.density());
        check.due("new: triangles()", 0, () -> barn.triangles());
        check.due("new: trussSize(2)", 0, () -> barn.trussSize(2));
    }

    private void promise2AddNode() {
        Corebarn barn = new Corebarn();
        for (int node = 0; node < 20; node++) {
            int want = node;
            check.due("addNode()", want, () -> barn.addNode());
            check.due("degree of a new node", 0, () -> barn.degree(want));
            check.due("core of a new node", 0, () -> barn.core(want));
        }
        barn.join(19, 0);
        String before = state(barn);
        check.due("addNode() with 20 nodes", NO_STATE, () -> barn.addNode());
        check.due("the state behind a refused addNode()", before, () -> state(barn));
    }

    private void promise3Join() {
        Corebarn barn = nodes(4);
        check.due("join(0, 1)", 2, () -> barn.join(0, 1));
        check.due("join(2, 1)", 1, () -> barn.join(2, 1));
        check.due("join(2, 3)", 1, () -> barn.join(2, 3));
        check.due("join(3, 0) closes a ring", 4, () -> barn.join(3, 0));
        check.due("join(0, 2) a first chord", 0, () -> barn.join(0, 2));
        check.due("join(3, 1) all joined", 4, () -> barn.join(3, 1));
        check.due("core(1)", 3, () -> barn.core(1));
        check.due("areJoined(1, 3)", true, () -> barn.areJoined(1, 3));
        check.due("edges()", 6, () -> barn.edges());
        village("join(8, 0) a lone node to a great core", 1, x -> x.join(8, 0));
        village("join(7, 9) between two tails", 0, x -> x.join(7, 9));
        village("join(7, 5) a tail into a ring", 1, x -> x.join(7, 5));
        refused("join(11, 0)", NO_INDEX, x -> x.join(11, 0));
        refused("join(0, 11)", NO_INDEX, x -> x.join(0, 11));
        refused("join(-1, 0)", NO_INDEX, x -> x.join(-1, 0));
        refused("join(0, -1)", NO_INDEX, x -> x.join(0, -1));
        refused("join(32, 1)", NO_INDEX, x -> x.join(32, 1));
        refused("join(MIN, MAX)", NO_INDEX, x -> x.join(MIN, MAX));
        refused("join(11, 11) no node before the same", NO_INDEX, x -> x.join(11, 11));
        refused("join(4, 4)", NO_ARGUMENT, x -> x.join(4, 4));
        refused("join(0, 1) again", NO_STATE, x -> x.join(0, 1));
        refused("join(1, 0) again", NO_STATE, x -> x.join(1, 0));
    }

    private void promise4Part() {
        Corebarn barn = complete(4);
        check.due("part(3, 1) of all joined", 4, () -> barn.part(3, 1));
        check.due("part(0, 2) leaves a ring", 0, () -> barn.part(0, 2));
        check.due("part(0, 1) opens the ring", 4, () -> barn.part(0, 1));
        check.due("part(2, 3) in the middle of a way", 0, () -> barn.part(3, 2));
        check.due("part(0, 3)", 2, () -> barn.part(0, 3));
        check.due("areJoined(0, 3)", false, () -> barn.areJoined(0, 3));
        check.due("edges()", 1, () -> barn.edges());
        check.due("core(1)", 1, () -> barn.core(1));
        village("part(6, 7) a tail", 1, x -> x.part(6, 7));
        village("part(4, 5) in a triangle", 3, x -> x.part(4, 5));
        check.due("part(5, 0) beside a node that a greater core holds", 1,
                () -> joined(6, 0, 1, 0, 2, 0, 3, 1, 2, 1, 3, 2, 3, 4, 0, 4, 1, 5, 4, 5, 0).part(5, 0));
        village("part(3, 4) a bridge", 0, x -> x.part(3, 4));
        refused("part(11, 0)", NO_INDEX, x -> x.part(11, 0));
        refused("part(0, 11)", NO_INDEX, x -> x.part(0, 11));
        refused("part(-1, 0)", NO_INDEX, x -> x.part(-1, 0));
        refused("part(0, MIN)", NO_INDEX, x -> x.part(0, MIN));
        refused("part(0, 33)", NO_INDEX, x -> x.part(0, 33));
        refused("part(11, 11) no node before the same", NO_INDEX, x -> x.part(11, 11));
        refused("part(8, 8) the same before no edge", NO_ARGUMENT, x -> x.part(8, 8));
        refused("part(0, 4)", NO_ELEMENT, x -> x.part(0, 4));
    }

    private void promise5Isolate() {
        Corebarn barn = village();
        check.due("isolate(4)", 3, () -> barn.isolate(4));
        check.due("degree(4)", 0, () -> barn.degree(4));
        check.due("core(4)", 0, () -> barn.core(4));
        check.due("core(5)", 1, () -> barn.core(5));
        check.due("core(3)", 3, () -> barn.core(3));
        check.due("edges()", 9, () -> barn.edges());
        check.due("nodes()", 11, () -> barn.nodes());
        check.due("areJoined(3, 4)", false, () -> barn.areJoined(3, 4));
        check.due("isolate(4) again", 0, () -> barn.isolate(4));
        check.due("join(4, 3) once more", 1, () -> barn.join(4, 3));
        Corebarn whole = complete(20);
        check.due("isolate(7) of the greatest network", 19, () -> whole.isolate(7));
        check.due("edges() behind it", 171, () -> whole.edges());
        check.due("degeneracy() behind it", 18, () -> whole.degeneracy());
        check.due("degree(0) behind it", 18, () -> whole.degree(0));
        check.due("degree(19) behind it", 18, () -> whole.degree(19));
        refused("isolate(11)", NO_INDEX, x -> x.isolate(11));
        refused("isolate(-1)", NO_INDEX, x -> x.isolate(-1));
        refused("isolate(MAX)", NO_INDEX, x -> x.isolate(MAX));
    }

    private void promises6And7NodesAndEdges() {
        village("nodes()", 11, x -> x.nodes());
        village("edges()", 12, x -> x.edges());
        check.due("nodes() of the greatest network", 20, () -> complete(20).nodes());
        check.due("edges() of the greatest network", 190, () -> complete(20).edges());
    }

    private void promise8Degree() {
        int[] degrees = {3, 3, 3, 4, 3, 2, 3, 1, 0, 1, 1};
        for (int node = 0; node < degrees.length; node++) {
            int asked = node;
            village("degree(" + node + ")", degrees[node], x -> x.degree(asked));
        }
        check.due("degree(19)", 19, () -> complete(20).degree(19));
        refused("degree(11)", NO_INDEX, x -> x.degree(11));
        refused("degree(-1)", NO_INDEX, x -> x.degree(-1));
        check.due("degree(20)", NO_INDEX, () -> complete(20).degree(20));
    }

    private void promise9Neighbour() {
        int[] friends = {0, 1, 2, 4};
        for (int index = 0; index < friends.length; index++) {
            int asked = index;
            village("neighbour(3, " + index + ")", friends[index], x -> x.neighbour(3, asked));
        }
        check.due("neighbour(0, 0) joined last", 1,
                () -> joined(3, 0, 2, 1, 0).neighbour(0, 0));
        refused("neighbour(3, 4)", NO_INDEX, x -> x.neighbour(3, 4));
        refused("neighbour(3, -1)", NO_INDEX, x -> x.neighbour(3, -1));
        refused("neighbour(3, MAX)", NO_INDEX, x -> x.neighbour(3, MAX));
        refused("neighbour(8, 0)", NO_INDEX, x -> x.neighbour(8, 0));
        refused("neighbour(11, 0)", NO_INDEX, x -> x.neighbour(11, 0));
        refused("neighbour(-1, 0)", NO_INDEX, x -> x.neighbour(-1, 0));
    }

    private void promise10AreJoined() {
        village("areJoined(3, 4)", true, x -> x.areJoined(3, 4));
        village("areJoined(4, 3)", true, x -> x.areJoined(4, 3));
        village("areJoined(2, 4)", false, x -> x.areJoined(2, 4));
        village("areJoined(3, 3)", false, x -> x.areJoined(3, 3));
        refused("areJoined(11, 0)", NO_INDEX, x -> x.areJoined(11, 0));
        refused("areJoined(0, 11)", NO_INDEX, x -> x.areJoined(0, 11));
        refused("areJoined(-1, -1)", NO_INDEX, x -> x.areJoined(-1, -1));
        refused("areJoined(0, 32)", NO_INDEX, x -> x.areJoined(0, 32));
    }

    private void promise11Core() {
        int[] cores = {3, 3, 3, 3, 2, 2, 2, 1, 0, 1, 1};
        for (int node = 0; node < cores.length; node++) {
            int asked = node;
            village("core(" + node + ")", cores[node], x -> x.core(asked));
        }
        check.due("core(0) of the middle of a star", 1, () -> joined(4, 0, 1, 0, 2, 0, 3).core(0));
        refused("core(11)", NO_INDEX, x -> x.core(11));
        refused("core(-1)", NO_INDEX, x -> x.core(-1));
    }

    private void promise12Degeneracy() {
        village("degeneracy()", 3, x -> x.degeneracy());
        check.due("degeneracy() without edges", 0, () -> nodes(3).degeneracy());
        check.due("degeneracy() of the greatest network", 19, () -> complete(20).degeneracy());
        Corebarn barn = complete(3);
        barn.part(0, 1);
        check.due("degeneracy() behind part", 1, () -> barn.degeneracy());
    }

    private void promise13CoreSize() {
        int[] sizes = {11, 10, 7, 4, 0};
        for (int k = 0; k < sizes.length; k++) {
            int asked = k;
            village("coreSize(" + k + ")", sizes[k], x -> x.coreSize(asked));
        }
        village("coreSize(MAX)", 0, x -> x.coreSize(MAX));
        check.due("coreSize(19)", 20, () -> complete(20).coreSize(19));
        refused("coreSize(-1)", NO_ARGUMENT, x -> x.coreSize(-1));
        refused("coreSize(MIN)", NO_ARGUMENT, x -> x.coreSize(MIN));
    }

    private void promise14Changes() {
        Corebarn barn = village();
        check.due("changes()", 21, () -> barn.changes());
        barn.part(0, 1);
        check.due("changes() behind part", 25, () -> barn.changes());
        barn.isolate(4);
        check.due("changes() behind isolate, node 4 twice", 29, () -> barn.changes());
        barn.join(0, 1);
        check.due("changes() behind join", 33, () -> barn.changes());
        barn.addNode();
        check.due("changes() behind addNode", 33, () -> barn.changes());
    }

    private void promise15Community() {
        village("community(0, 0)", 8, x -> x.community(0, 0));
        village("community(7, 1)", 8, x -> x.community(7, 1));
        village("community(5, 2)", 7, x -> x.community(5, 2));
        village("community(3, 3)", 4, x -> x.community(3, 3));
        village("community(3, 4)", 0, x -> x.community(3, 4));
        village("community(7, 2)", 0, x -> x.community(7, 2));
        village("community(8, 0)", 1, x -> x.community(8, 0));
        village("community(8, 1)", 0, x -> x.community(8, 1));
        village("community(9, 1)", 2, x -> x.community(9, 1));
        village("community(0, MAX)", 0, x -> x.community(0, MAX));
        check.due("community(1, 3) of two houses", 4, () -> twoHouses().community(1, 3));
        check.due("community(0, 1) of the longest way", 20, () -> way(20).community(0, 1));
        refused("community(11, 0)", NO_INDEX, x -> x.community(11, 0));
        refused("community(-1, -1) no node first", NO_INDEX, x -> x.community(-1, -1));
        refused("community(0, -1)", NO_ARGUMENT, x -> x.community(0, -1));
    }

    private void promise16Communities() {
        int[] counts = {3, 2, 1, 1, 0};
        for (int k = 0; k < counts.length; k++) {
            int asked = k;
            village("communities(" + k + ")", counts[k], x -> x.communities(asked));
        }
        village("communities(MAX)", 0, x -> x.communities(MAX));
        check.due("communities(3) of two houses", 2, () -> twoHouses().communities(3));
        check.due("communities(2) of two houses", 1, () -> twoHouses().communities(2));
        check.due("communities(0) without edges", 20, () -> nodes(20).communities(0));
        refused("communities(-1)", NO_ARGUMENT, x -> x.communities(-1));
    }

    private void promise17Together() {
        village("together(0, 3)", 3, x -> x.together(0, 3));
        village("together(0, 5)", 2, x -> x.together(0, 5));
        village("together(5, 0)", 2, x -> x.together(5, 0));
        village("together(0, 7)", 1, x -> x.together(0, 7));
        village("together(9, 10)", 1, x -> x.together(9, 10));
        check.due("together(1, 7) of two houses", 2, () -> twoHouses().together(1, 7));
        village("together(8, 8)", 0, x -> x.together(8, 8));
        village("together(1, 1)", 3, x -> x.together(1, 1));
        refused("together(0, 8)", NO_ELEMENT, x -> x.together(0, 8));
        refused("together(9, 0)", NO_ELEMENT, x -> x.together(9, 0));
        refused("together(11, 0)", NO_INDEX, x -> x.together(11, 0));
        refused("together(0, 11)", NO_INDEX, x -> x.together(0, 11));
        refused("together(-1, -1)", NO_INDEX, x -> x.together(-1, -1));
    }

    private void promise18Hierarchy() {
        village("hierarchy()", 5, x -> x.hierarchy());
        check.due("hierarchy() of two houses", 3, () -> twoHouses().hierarchy());
        check.due("hierarchy() without edges", 3, () -> nodes(3).hierarchy());
        check.due("hierarchy() of one set at all levels", 1, () -> complete(20).hierarchy());
    }

    private void promise19Peeled() {
        int[] order = {8, 7, 9, 10, 5, 6, 4, 0, 1, 2, 3};
        for (int place = 0; place < order.length; place++) {
            int asked = place;
            village("peeled(" + place + ")", order[place], x -> x.peeled(asked));
        }
        check.due("peeled(19)", 19, () -> complete(20).peeled(19));
        refused("peeled(11)", NO_INDEX, x -> x.peeled(11));
        refused("peeled(-1)", NO_INDEX, x -> x.peeled(-1));
        refused("peeled(MAX)", NO_INDEX, x -> x.peeled(MAX));
        check.due("peeled(20)", NO_INDEX, () -> complete(20).peeled(20));
    }

    private void promises20To22DensePart() {
        village("denseSize()", 4, x -> x.denseSize());
        village("isDense(0)", true, x -> x.isDense(0));
        village("isDense(3)", true, x -> x.isDense(3));
        village("isDense(4)", false, x -> x.isDense(4));
        village("isDense(10)", false, x -> x.isDense(10));
        village("density()", 1.5, x -> x.density());
        Corebarn pairs = joined(4, 0, 1, 2, 3);
        check.due("denseSize() of several as dense", 4, () -> pairs.denseSize());
        check.due("isDense(0) of several as dense", true, () -> pairs.isDense(0));
        check.due("density() of several as dense", 0.5, () -> pairs.density());
        check.due("denseSize() without edges", 3, () -> nodes(3).denseSize());
        check.due("isDense(2) without edges", true, () -> nodes(3).isDense(2));
        check.due("density() without edges", 0.0, () -> nodes(3).density());
        check.due("density() of a third", 1.0 / 3.0 * 2.0, () -> joined(3, 0, 1, 1, 2).density());
        check.due("density() of the greatest network", 9.5, () -> complete(20).density());
        refused("isDense(11)", NO_INDEX, x -> x.isDense(11));
        refused("isDense(-1)", NO_INDEX, x -> x.isDense(-1));
    }

    private void promise23Support() {
        village("support(0, 1)", 2, x -> x.support(0, 1));
        village("support(5, 4)", 1, x -> x.support(5, 4));
        village("support(3, 4)", 0, x -> x.support(3, 4));
        check.due("support(0, 19)", 18, () -> complete(20).support(0, 19));
        refused("support(11, 0)", NO_INDEX, x -> x.support(11, 0));
        refused("support(0, 11)", NO_INDEX, x -> x.support(0, 11));
        refused("support(-1, -1)", NO_INDEX, x -> x.support(-1, -1));
        refused("support(2, 4) with a node between", NO_ELEMENT, x -> x.support(2, 4));
        refused("support(3, 3)", NO_ELEMENT, x -> x.support(3, 3));
    }

    private void promise24Triangles() {
        village("triangles()", 5, x -> x.triangles());
        check.due("triangles() of a ring of four", 0,
                () -> joined(4, 0, 1, 1, 2, 2, 3, 3, 0).triangles());
        check.due("triangles() of the greatest network", 1140, () -> complete(20).triangles());
    }

    private void promise25Truss() {
        village("truss(0, 1)", 4, x -> x.truss(0, 1));
        village("truss(6, 5)", 3, x -> x.truss(6, 5));
        village("truss(3, 4)", 2, x -> x.truss(3, 4));
        village("truss(9, 10)", 2, x -> x.truss(9, 10));
        check.due("truss(0, 1) of support 2 in two triangles", 3,
                () -> joined(4, 0, 1, 0, 2, 1, 2, 0, 3, 1, 3).truss(0, 1));
        check.due("truss(0, 19)", 20, () -> complete(20).truss(0, 19));
        refused("truss(11, 0)", NO_INDEX, x -> x.truss(11, 0));
        refused("truss(0, 11)", NO_INDEX, x -> x.truss(0, 11));
        refused("truss(-1, -1)", NO_INDEX, x -> x.truss(-1, -1));
        refused("truss(2, 4)", NO_ELEMENT, x -> x.truss(2, 4));
        refused("truss(3, 3)", NO_ELEMENT, x -> x.truss(3, 3));
    }

    private void promise26TrussSize() {
        int[] sizes = {12, 9, 6, 0};
        for (int k = 2; k < 6; k++) {
            int asked = k;
            village("trussSize(" + k + ")", sizes[k - 2], x -> x.trussSize(asked));
        }
        village("trussSize(MAX)", 0, x -> x.trussSize(MAX));
        check.due("trussSize(20)", 190, () -> complete(20).trussSize(20));
        check.due("trussSize(21)", 0, () -> complete(20).trussSize(21));
        check.due("trussSize(4) of two triangles at one edge", 0,
                () -> joined(4, 0, 1, 0, 2, 1, 2, 0, 3, 1, 3).trussSize(4));
        refused("trussSize(1)", NO_ARGUMENT, x -> x.trussSize(1));
        refused("trussSize(0)", NO_ARGUMENT, x -> x.trussSize(0));
        refused("trussSize(MIN)", NO_ARGUMENT, x -> x.trussSize(MIN));
    }

    private void objectsShareNothing() {
        Corebarn first = village();
        Corebarn second = nodes(2);
        second.join(0, 1);
        check.due("the first of two objects", state(village()), () -> state(first));
        check.due("the second of two objects", "2 1 2; 1: 1; 1: 0", () -> state(second));
    }
}
