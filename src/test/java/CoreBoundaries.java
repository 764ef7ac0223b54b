/** Promises 11 to 18: a test for each sentence that names a boundary case. */
public final class CoreBoundaries extends Fixture {
    private static final int LAST = 19;

    public static void main(String[] args) {
        CoreBoundaries tests = new CoreBoundaries();
        tests.promise11LeastAndGreatestAnswer();
        tests.promise11TheGreatestK();
        tests.promise11Refusals();
        tests.promise12Degeneracy();
        tests.promise12WithoutNodes();
        tests.promise13LeastAndGreatestK();
        tests.promise13Refusals();
        tests.promise14OverAllCalls();
        tests.promise14BeforeEachSingleEdge();
        tests.promise14OtherCallsChangeNothing();
        tests.promise15LeastAndGreatestAnswer();
        tests.promise15NotInTheCore();
        tests.promise15Refusals();
        tests.promise16LeastAndGreatestAnswer();
        tests.promise16NodesOfTheCoreAlone();
        tests.promise16Refusals();
        tests.promise17LeastAndGreatestAnswer();
        tests.promise17TheSame();
        tests.promise17AtNoLevel();
        tests.promise17Refusals();
        tests.promise18LeastAndGreatestAnswer();
        tests.promise18SeveralLevelsOnce();
        tests.check.close("CoreBoundaries");
    }

    /** All of so many nodes joined, and beside them the rest of the 20, without edges. */
    private static Corebarn someJoined(int joined) {
        Corebarn barn = complete(joined);
        for (int node = joined; node <= LAST; node++) {
            barn.addNode();
        }
        return barn;
    }

    /** Ten pairs: 0-1, 2-3 and so on. */
    private static Corebarn pairs() {
        Corebarn barn = nodes(20);
        for (int node = 0; node < LAST; node += 2) {
            barn.join(node, node + 1);
        }
        return barn;
    }

    // ---- Promise 11: core

    private void promise11LeastAndGreatestAnswer() {
        dueAndKept(ONE, "core(0)", 0, x -> x.core(0));
        dueAndKept(PAIR, "core(1)", 1, x -> x.core(1));
        for (int number = 0; number <= LAST; number++) {
            int node = number;
            due(BARE, "core(" + node + ")", 0, x -> x.core(node));
            due(FULL, "core(" + node + ")", 19, x -> x.core(node));
            check.due("core(" + node + ") in a star", 1, () -> star(20, 9).core(node));
            check.due("core(" + node + ") in a ring", 2, () -> ring(20).core(node));
            check.due("core(" + node + ") in a way", 1, () -> way(20).core(node));
        }
        dueAndKept(FULL, "core(19)", 19, x -> x.core(LAST));
    }

    private void promise11TheGreatestK() {
        for (int number = 0; number <= LAST; number++) {
            int node = number;
            check.due("core(" + node + ") in stairs", Math.min(node, 9),
                    () -> stairs().core(node));
            for (int joined = 1; joined <= 20; joined++) {
                int asked = joined;
                check.due("core(" + node + ") with " + asked + " nodes all joined",
                        node < asked ? asked - 1 : 0, () -> someJoined(asked).core(node));
            }
        }
    }

    private void promise11Refusals() {
        refusesNoNode("core", (x, node) -> x.core(node));
    }

    // ---- Promise 12: degeneracy

    private void promise12Degeneracy() {
        for (int joined = 1; joined <= 20; joined++) {
            int asked = joined;
            check.due("degeneracy() with " + asked + " nodes all joined", asked - 1,
                    () -> someJoined(asked).degeneracy());
        }
        dueAndKept(ONE, "degeneracy()", 0, x -> x.degeneracy());
        dueAndKept(BARE, "degeneracy()", 0, x -> x.degeneracy());
        dueAndKept(FULL, "degeneracy()", 19, x -> x.degeneracy());
        check.due("degeneracy() in stairs", 9, () -> stairs().degeneracy());
        check.due("degeneracy() of the last nodes alone", 2,
                () -> joined(20, 17, 18, 18, 19, 17, 19).degeneracy());
        Corebarn barn = complete(20);
        barn.part(0, LAST);
        check.due("degeneracy() with all edges but one", 18, () -> barn.degeneracy());
        for (int node = 0; node <= LAST; node++) {
            barn.isolate(node);
        }
        check.due("degeneracy() with all nodes isolated", 0, () -> barn.degeneracy());
    }

    private void promise12WithoutNodes() {
        dueAndKept(EMPTY, "degeneracy() without nodes", 0, x -> x.degeneracy());
    }

    // ---- Promise 13: coreSize

    private void promise13LeastAndGreatestK() {
        for (Network network : NETWORKS) {
            int greatest = network.make().degeneracy();
            dueAndKept(network, "coreSize(0)", network.count, x -> x.coreSize(0));
            for (int k : new int[] {greatest + 1, greatest + 2, 20, 31, 32, MAX - 1, MAX}) {
                dueAndKept(network, "coreSize(" + k + ")", 0, x -> x.coreSize(k));
            }
        }
        for (int level = 0; level <= 20; level++) {
            int k = level;
            due(FULL, "coreSize(" + k + ")", k <= 19 ? 20 : 0, x -> x.coreSize(k));
            due(BARE, "coreSize(" + k + ")", k == 0 ? 20 : 0, x -> x.coreSize(k));
            check.due("coreSize(" + k + ") in stairs", k <= 9 ? 20 - k : 0,
                    () -> stairs().coreSize(k));
        }
    }

    private void promise13Refusals() {
        refusesLevelsBelow(0, "coreSize", (x, k) -> x.coreSize(k));
    }

    // ---- Promise 14: changes

    private void promise14OverAllCalls() {
        int[] sums = {0, 0, 2, 21, 0, 380};
        for (int i = 0; i < sums.length; i++) {
            dueAndKept(NETWORKS.get(i), "changes()", sums[i], x -> x.changes());
        }
        Corebarn barn = ring(20);
        check.due("changes() behind a ring is made", 40, () -> barn.changes());
        barn.part(5, 6);
        check.due("changes() behind part, not taken back", 60, () -> barn.changes());
        barn.join(6, 5);
        check.due("changes() behind join again", 80, () -> barn.changes());
        barn.join(0, 10);
        check.due("changes() behind a chord", 80, () -> barn.changes());
    }

    private void promise14BeforeEachSingleEdge() {
        Corebarn barn = complete(20);
        barn.isolate(13);
        check.due("changes() behind isolate: 19 times node 13, once each other",
                380 + 19 + 19, () -> barn.changes());
        barn.isolate(13);
        check.due("changes() behind isolate without edges", 418, () -> barn.changes());
        Corebarn star = star(20, 0);
        check.due("changes() behind a star is made", 20, () -> star.changes());
        star.isolate(0);
        check.due("changes() behind the star is undone", 40, () -> star.changes());
        Corebarn allAlone = complete(20);
        for (int node = 0; node <= LAST; node++) {
            allAlone.isolate(node);
        }
        check.due("changes() behind all nodes are isolated", 760, () -> allAlone.changes());
    }

    private void promise14OtherCallsChangeNothing() {
        Corebarn barn = joined(3, 0, 1);
        barn.addNode();
        Check.outcome(() -> barn.join(0, 1));
        Check.outcome(() -> barn.join(2, 2));
        Check.outcome(() -> barn.join(0, 4));
        Check.outcome(() -> barn.part(1, 2));
        Check.outcome(() -> barn.part(0, -1));
        Check.outcome(() -> barn.isolate(4));
        check.due("changes() behind addNode and refused calls", 2, () -> barn.changes());
    }

    // ---- Promise 15: community

    private void promise15LeastAndGreatestAnswer() {
        dueAndKept(ONE, "community(0, 0)", 1, x -> x.community(0, 0));
        dueAndKept(PAIR, "community(1, 1)", 2, x -> x.community(1, 1));
        dueAndKept(BARE, "community(19, 0)", 1, x -> x.community(LAST, 0));
        dueAndKept(FULL, "community(0, 0)", 20, x -> x.community(0, 0));
        dueAndKept(FULL, "community(0, 19)", 20, x -> x.community(0, 19));
        dueAndKept(FULL, "community(19, 19)", 20, x -> x.community(LAST, 19));
        for (int number = 0; number <= LAST; number++) {
            int node = number;
            check.due("community(" + node + ", 1) of the longest way", 20,
                    () -> way(20).community(node, 1));
            check.due("community(" + node + ", 1) of a pair", 2,
                    () -> pairs().community(node, 1));
        }
    }

    private void promise15NotInTheCore() {
        for (Network network : NETWORKS) {
            if (network.count == 0) {
                continue;
            }
            int node = network.count - 1;
            int above = network.make().core(node) + 1;
            for (int k : new int[] {above, above + 1, 20, 31, 32, MAX - 1, MAX}) {
                dueAndKept(network, "community(" + node + ", " + k + ")", 0,
                        x -> x.community(node, k));
            }
        }
        for (int number = 0; number <= LAST; number++) {
            int node = number;
            for (int level = 1; level <= 10; level++) {
                int k = level;
                check.due("community(" + node + ", " + k + ") in stairs",
                        k <= Math.min(node, 9) ? 20 - k : 0, () -> stairs().community(node, k));
            }
        }
        check.due("community(0, 0) in stairs, alone", 1, () -> stairs().community(0, 0));
        check.due("community(1, 0) in stairs", 19, () -> stairs().community(1, 0));
    }

    private void promise15Refusals() {
        for (int k : new int[] {0, 1, MAX, -1, MIN}) {
            refusesNoNode("community at level " + k, (x, node) -> x.community(node, k));
        }
        for (Network network : NETWORKS) {
            for (int number = 0; number < network.count; number++) {
                int node = number;
                for (int k : new int[] {-1, -2, -31, -32, MIN, MIN + 1}) {
                    refused(network, "community(" + node + ", " + k + ")", NO_ARGUMENT,
                            x -> x.community(node, k));
                }
            }
        }
    }

    // ---- Promise 16: communities

    private void promise16LeastAndGreatestAnswer() {
        dueAndKept(EMPTY, "communities(0)", 0, x -> x.communities(0));
        dueAndKept(ONE, "communities(0)", 1, x -> x.communities(0));
        dueAndKept(PAIR, "communities(1)", 1, x -> x.communities(1));
        dueAndKept(BARE, "communities(0)", 20, x -> x.communities(0));
        dueAndKept(FULL, "communities(0)", 1, x -> x.communities(0));
        dueAndKept(FULL, "communities(19)", 1, x -> x.communities(19));
        for (Network network : NETWORKS) {
            int above = network.make().degeneracy() + 1;
            for (int k : new int[] {above, above + 1, 20, 31, 32, MAX - 1, MAX}) {
                dueAndKept(network, "communities(" + k + ")", 0, x -> x.communities(k));
            }
        }
        check.due("communities(1) of ten pairs", 10, () -> pairs().communities(1));
        check.due("communities(1) of the longest way", 1, () -> way(20).communities(1));
    }

    private void promise16NodesOfTheCoreAlone() {
        check.due("communities(0) in stairs", 2, () -> stairs().communities(0));
        for (int level = 1; level <= 10; level++) {
            int k = level;
            check.due("communities(" + k + ") in stairs", k <= 9 ? 1 : 0,
                    () -> stairs().communities(k));
        }
        check.due("communities(2) over a node of that core", 1, () -> twoHouses().communities(2));
        check.due("communities(3) with no way but over a lower node", 2,
                () -> twoHouses().communities(3));
    }

    private void promise16Refusals() {
        refusesLevelsBelow(0, "communities", (x, k) -> x.communities(k));
    }

    // ---- Promise 17: together

    private void promise17LeastAndGreatestAnswer() {
        dueAndKept(PAIR, "together(0, 1)", 1, x -> x.together(0, 1));
        dueAndKept(FULL, "together(0, 19)", 19, x -> x.together(0, LAST));
        dueAndKept(FULL, "together(19, 0)", 19, x -> x.together(LAST, 0));
        dueAndKept(FULL, "together(19, 18)", 19, x -> x.together(LAST, 18));
        check.due("together(0, 19) the ends of a way", 1, () -> way(20).together(0, LAST));
        check.due("together(0, 19) in a ring", 2, () -> ring(20).together(0, LAST));
        check.due("together(1, 7) of two houses, less than both cores", 2,
                () -> twoHouses().together(1, 7));
        for (int number = 1; number <= LAST; number++) {
            int node = number;
            check.due("together(" + node + ", 19) in stairs", Math.min(node, 9),
                    () -> stairs().together(node, LAST));
            check.due("together(1, " + node + ") in stairs", 1, () -> stairs().together(1, node));
        }
    }

    private void promise17TheSame() {
        for (Network network : NETWORKS) {
            for (int number = 0; number < network.count; number++) {
                int node = number;
                int level = network.make().core(node);
                dueAndKept(network, "together(" + node + ", itself)", level,
                        x -> x.together(node, node));
            }
        }
    }

    private void promise17AtNoLevel() {
        for (int number = 1; number <= LAST; number++) {
            int node = number;
            refused(BARE, "together(0, " + node + ")", NO_ELEMENT, x -> x.together(0, node));
            refused(BARE, "together(" + node + ", 0)", NO_ELEMENT, x -> x.together(node, 0));
        }
        refused(VILLAGE, "together(8, 0)", NO_ELEMENT, x -> x.together(8, 0));
        refused(VILLAGE, "together(0, 10)", NO_ELEMENT, x -> x.together(0, 10));
        Corebarn barn = joined(2, 0, 1);
        barn.part(1, 0);
        check.due("together(0, 1) behind part", NO_ELEMENT, () -> barn.together(0, 1));
        check.due("together(2, 3) of ten pairs", 1, () -> pairs().together(2, 3));
        check.due("together(1, 2) of ten pairs", NO_ELEMENT, () -> pairs().together(1, 2));
    }

    private void promise17Refusals() {
        refusesNoNodeOfTwo("together", (x, one, other) -> x.together(one, other));
    }

    // ---- Promise 18: hierarchy

    private void promise18LeastAndGreatestAnswer() {
        int[] counts = {0, 1, 1, 5, 20, 1};
        for (int i = 0; i < counts.length; i++) {
            dueAndKept(NETWORKS.get(i), "hierarchy()", counts[i], x -> x.hierarchy());
        }
        check.due("hierarchy() of ten pairs", 10, () -> pairs().hierarchy());
        check.due("hierarchy() in stairs: node 0 alone, and k to 19 for k from 1 to 9", 10,
                () -> stairs().hierarchy());
    }

    private void promise18SeveralLevelsOnce() {
        for (int joined = 1; joined <= 20; joined++) {
            int asked = joined;
            check.due("hierarchy() of " + asked + " nodes all joined", 1,
                    () -> complete(asked).hierarchy());
            check.due("hierarchy() of " + asked + " nodes all joined and lone ones", 21 - asked,
                    () -> someJoined(asked).hierarchy());
        }
        check.due("hierarchy() of two houses: the whole and each house", 3,
                () -> twoHouses().hierarchy());
        check.due("hierarchy() of a triangle with a tail: the whole and the triangle", 2,
                () -> joined(4, 0, 1, 1, 2, 0, 2, 2, 3).hierarchy());
        check.due("hierarchy() of two sets of one size", 2,
                () -> joined(6, 0, 1, 1, 2, 0, 2, 3, 4, 4, 5, 3, 5).hierarchy());
    }
}
