import java.util.ArrayList;
import java.util.List;
import java.util.function.Supplier;

/** The networks, the views of all that can be asked, and the refusals that the tests share. */
abstract class Fixture {
    static final String NO_INDEX = "throws.IndexOutOfBoundsException";
    static final String NO_ARGUMENT = "throws.IllegalArgumentException";
    static final String NO_STATE = "throws.IllegalStateException";
    static final String NO_ELEMENT = "throws.NoSuchElementException";
    static final int MIN = Integer.MIN_VALUE;
    static final int MAX = Integer.MAX_VALUE;

    /** A call without numbers, or with numbers of its own. */
    interface Call {
        Object on(Corebarn barn);
    }

    /** A call with one number that the test chooses. */
    interface CallOfOne {
        Object on(Corebarn barn, int number);
    }

    /** A call with two numbers that the test chooses. */
    interface CallOfTwo {
        Object on(Corebarn barn, int first, int second);
    }

    // Each view is asked of an object of its own: together with the calls that make the full
    // network they would be more than the 512 calls that the document allows.
    private static final List<Call> VIEWS = List.of(Fixture::viewOfEdges, Fixture::viewOfNumbers,
            Fixture::viewOfCommunities, Fixture::viewOfSupports, Fixture::viewOfTrusses,
            Fixture::viewOfGrowth);

    /** A network that can be made again and again, and what its views show. */
    static final class Network {
        final String name;
        final int count;
        private final Supplier<Corebarn> maker;
        private final List<Object> seen = new ArrayList<>();

        Network(String name, Supplier<Corebarn> maker) {
            this.name = name;
            this.maker = maker;
            this.count = maker.get().nodes();
            for (Call view : VIEWS) {
                seen.add(view.on(maker.get()));
            }
        }

        Corebarn make() {
            return maker.get();
        }
    }

    static final Network EMPTY = new Network("no nodes", () -> nodes(0));
    static final Network ONE = new Network("one node", () -> nodes(1));
    static final Network PAIR = new Network("a pair", () -> joined(2, 0, 1));
    static final Network VILLAGE = new Network("the village", Fixture::village);
    static final Network BARE = new Network("20 nodes without edges", () -> nodes(20));
    static final Network FULL = new Network("the full network", () -> complete(20));
    static final List<Network> NETWORKS = List.of(EMPTY, ONE, PAIR, VILLAGE, BARE, FULL);

    final Check check = new Check();

    // ---- networks

    static Corebarn nodes(int count) {
        Corebarn barn = new Corebarn();
        for (int i = 0; i < count; i++) {
            barn.addNode();
        }
        return barn;
    }

    static Corebarn joined(int count, int... ends) {
        Corebarn barn = nodes(count);
        for (int i = 0; i + 1 < ends.length; i += 2) {
            barn.join(ends[i], ends[i + 1]);
        }
        return barn;
    }

    static Corebarn complete(int count) {
        Corebarn barn = nodes(count);
        for (int one = 0; one < count; one++) {
            for (int other = one + 1; other < count; other++) {
                barn.join(one, other);
            }
        }
        return barn;
    }

    /** Four nodes all joined, a bridge 3-4, a triangle 4 5 6, a tail 7, a lone 8, a pair 9-10. */
    static Corebarn village() {
        return joined(11, 0, 1, 0, 2, 0, 3, 1, 2, 1, 3, 2, 3, 3, 4, 4, 5, 4, 6, 5, 6, 6, 7, 9, 10);
    }

    /** All joined: 0 to 3, and 4 to 7; the only way between them is 0-8-4, at a lower level. */
    static Corebarn twoHouses() {
        return joined(9, 0, 1, 0, 2, 0, 3, 1, 2, 1, 3, 2, 3,
                4, 5, 4, 6, 4, 7, 5, 6, 5, 7, 6, 7, 0, 8, 8, 4);
    }

    /** The way 0-1-2-.. over all of so many nodes. */
    static Corebarn way(int count) {
        Corebarn barn = nodes(count);
        for (int node = 1; node < count; node++) {
            barn.join(node - 1, node);
        }
        return barn;
    }

    static Corebarn ring(int count) {
        Corebarn barn = way(count);
        barn.join(count - 1, 0);
        return barn;
    }

    /** A middle that is joined to all others, which have no edges of their own. */
    static Corebarn star(int count, int middle) {
        Corebarn barn = nodes(count);
        for (int node = 0; node < count; node++) {
            if (node != middle) {
                barn.join(middle, node);
            }
        }
        return barn;
    }

    /**
     * Two of the 20 nodes are joined if their numbers sum up to 20 or more: the k-core is k to 19
     * for each k up to 9, none is left at 10, and the nodes are peeled in their order.
     */
    static Corebarn stairs() {
        Corebarn barn = nodes(20);
        for (int one = 0; one < 20; one++) {
            for (int other = one + 1; other < 20; other++) {
                if (one + other >= 20) {
                    barn.join(one, other);
                }
            }
        }
        return barn;
    }

    // ---- views of all that can be asked, each at most 280 calls

    private static Object viewOfEdges(Corebarn barn) {
        int count = barn.nodes();
        StringBuilder text = new StringBuilder();
        text.append(count).append(' ').append(barn.edges()).append(' ').append(barn.changes());
        for (int node = 0; node < count; node++) {
            int degree = barn.degree(node);
            text.append("; ").append(degree);
            if (degree > 0) {
                text.append(' ').append(barn.neighbour(node, 0));
                text.append(' ').append(barn.neighbour(node, degree - 1));
            }
        }
        return text.append(pairs(count, (one, other) -> barn.areJoined(one, other))).toString();
    }

    private static Object viewOfNumbers(Corebarn barn) {
        StringBuilder text = new StringBuilder();
        for (int node = 0; node < barn.nodes() && node < 20; node++) {
            text.append(barn.core(node)).append(' ').append(barn.peeled(node)).append(' ');
            text.append(barn.isDense(node)).append("; ");
        }
        for (int k = 0; k <= 20; k++) {
            text.append(barn.coreSize(k)).append(' ').append(barn.communities(k)).append(' ');
            text.append(barn.trussSize(k + 2)).append("; ");
        }
        text.append(barn.degeneracy()).append(' ').append(barn.changes()).append(' ');
        text.append(barn.hierarchy()).append(' ').append(barn.denseSize()).append(' ');
        return text.append(barn.density()).append(' ').append(barn.triangles()).toString();
    }

    private static Object viewOfCommunities(Corebarn barn) {
        int count = barn.nodes();
        StringBuilder text = new StringBuilder();
        for (int node = 0; node < count; node++) {
            for (int k = 0; k < 4; k++) {
                text.append(barn.community(node, k)).append(' ');
            }
        }
        return text.append(pairs(count, (one, other) -> barn.together(one, other))).toString();
    }

    private static Object viewOfSupports(Corebarn barn) {
        return pairs(barn.nodes(), (one, other) -> barn.support(one, other));
    }

    private static Object viewOfTrusses(Corebarn barn) {
        return pairs(barn.nodes(), (one, other) -> barn.truss(one, other));
    }

    /** What has been kept of nodes that are not there yet would show here. */
    private static Object viewOfGrowth(Corebarn barn) {
        StringBuilder text = new StringBuilder();
        for (int count = barn.nodes(); count < 20; count++) {
            text.append(barn.addNode()).append(' ');
        }
        text.append(Check.outcome(() -> barn.addNode()));
        text.append(pairs(20, (one, other) -> barn.areJoined(other, one)));
        for (int node = 0; node < 20; node++) {
            text.append(barn.core(node)).append(' ').append(barn.isolate(node)).append(' ');
        }
        return text.append(barn.edges()).append(' ').append(barn.changes()).toString();
    }

    private interface OfPair {
        Object ask(int one, int other);
    }

    private static String pairs(int count, OfPair question) {
        StringBuilder text = new StringBuilder();
        for (int one = 0; one < count; one++) {
            for (int other = one + 1; other < count; other++) {
                int a = one;
                int b = other;
                text.append(' ').append(Check.outcome(() -> question.ask(a, b)));
            }
        }
        return text.toString();
    }

    // ---- calls that are due

    void due(Network network, String call, Object want, Call action) {
        check.due(call + " with " + network.name, want, () -> action.on(network.make()));
    }

    void village(String call, Object want, Call action) {
        due(VILLAGE, call, want, action);
    }

    /** The call answers what is due and changes nothing that can be asked, now or later. */
    void dueAndKept(Network network, String call, Object want, Call action) {
        String where = call + " with " + network.name;
        for (int i = 0; i < VIEWS.size(); i++) {
            Call view = VIEWS.get(i);
            Corebarn barn = network.make();
            check.due(where, want, () -> action.on(barn));
            check.due("view " + i + " behind " + where, network.seen.get(i), () -> view.on(barn));
        }
    }

    /** The call throws what is due and changes nothing. */
    void refused(Network network, String call, String want, Call action) {
        dueAndKept(network, call, want, action);
    }

    void refused(String call, String want, Call action) {
        refused(VILLAGE, call, want, action);
    }

    // ---- numbers just outside, far outside, and those that a shift would take for a node

    /** Numbers that are no node, or no place, where there are so many of them. */
    static List<Integer> outside(int count) {
        List<Integer> found = new ArrayList<>();
        for (int number : new int[] {count, count + 1, 19, 20, 21, 31, 32, 33, 51, 64, MAX - 1, MAX,
                -1, -2, -19, -20, -31, -32, -64, MIN, MIN + 1}) {
            if ((number < 0 || number >= count) && !found.contains(number)) {
                found.add(number);
            }
        }
        return found;
    }

    /** Each number that is no node is refused, in each network. */
    void refusesNoNode(String name, CallOfOne call) {
        for (Network network : NETWORKS) {
            for (int number : outside(network.count)) {
                refused(network, name + "(" + number + ")", NO_INDEX, x -> call.on(x, number));
            }
        }
    }

    /** Each number that is no node is refused as the first, as the second and as both. */
    void refusesNoNodeOfTwo(String name, CallOfTwo call) {
        for (Network network : NETWORKS) {
            int last = network.count - 1;
            for (int number : outside(network.count)) {
                refusesPair(network, name, number, number, call);
                refusesPair(network, name, number, network.count, call);
                refusesPair(network, name, -1, number, call);
                if (network.count > 0) {
                    refusesPair(network, name, number, 0, call);
                    refusesPair(network, name, 0, number, call);
                    refusesPair(network, name, last, number, call);
                }
            }
        }
    }

    private void refusesPair(Network network, String name, int one, int other, CallOfTwo call) {
        refused(network, name + "(" + one + ", " + other + ")", NO_INDEX,
                x -> call.on(x, one, other));
    }

    /** Each level below the least is refused, in each network. */
    void refusesLevelsBelow(int least, String name, CallOfOne call) {
        for (Network network : NETWORKS) {
            for (int level : new int[] {least - 1, least - 2, least - 3, -1, -31, -32, MIN, MIN + 1}) {
                refused(network, name + "(" + level + ")", NO_ARGUMENT, x -> call.on(x, level));
            }
        }
    }
}
