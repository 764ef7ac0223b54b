import java.util.Random;

/** Long runs of mixed calls, right and wrong ones, each compared with the plain reading. */
public final class ModelRuns {
    private static final int RUNS = 400;
    private static final int CALLS = 512;
    private static final int[] EDGES_OF_INT =
            {-1, Integer.MIN_VALUE, Integer.MAX_VALUE, 19, 20, 21, 31, 32, 33};

    private final Check check = new Check();
    private Random random;
    private Corebarn barn;
    private PlainNetwork plain;
    private int run;
    private int nodeGoal;
    private int joinShare;

    public static void main(String[] args) {
        ModelRuns runs = new ModelRuns();
        for (int run = 1; run <= RUNS; run++) {
            runs.playRun(run);
        }
        runs.check.close("ModelRuns");
    }

    private void playRun(int number) {
        run = number;
        random = new Random(number);
        barn = new Corebarn();
        plain = new PlainNetwork();
        nodeGoal = 1 + random.nextInt(20);
        joinShare = 40 + random.nextInt(55);
        for (int call = 0; call < CALLS; call++) {
            if (plain.nodes() < nodeGoal && random.nextInt(3) > 0) {
                addNode();
            } else if (random.nextInt(2) == 0) {
                change();
            } else {
                ask(random.nextInt(22));
            }
        }
    }

    private int node() {
        if (random.nextInt(40) == 0) {
            return odd();
        }
        return random.nextInt(Math.max(1, plain.nodes()));
    }

    private int odd() {
        int pick = random.nextInt(EDGES_OF_INT.length + 1);
        return pick < EDGES_OF_INT.length ? EDGES_OF_INT[pick] : plain.nodes();
    }

    private int level() {
        return random.nextInt(12) == 0 ? odd() : random.nextInt(random.nextBoolean() ? 8 : 22);
    }

    private void due(String call, java.util.function.Supplier<Object> want,
            java.util.function.Supplier<Object> got) {
        check.due("run " + run + ": " + call, Check.outcome(want), got);
    }

    private void addNode() {
        due("addNode()", () -> plain.addNode(), () -> barn.addNode());
    }

    private void change() {
        int a = node();
        int b = node();
        String pair = "(" + a + ", " + b + ")";
        if (random.nextInt(40) == 0) {
            due("isolate(" + a + ")", () -> plain.isolate(a), () -> barn.isolate(a));
        } else if (random.nextInt(60) == 0) {
            addNode();
        } else if (random.nextInt(100) < joinShare) {
            due("join" + pair, () -> plain.join(a, b), () -> barn.join(a, b));
        } else {
            due("part" + pair, () -> plain.part(a, b), () -> barn.part(a, b));
        }
    }

    private void ask(int which) {
        switch (which) {
            case 0 -> due("nodes()", () -> plain.nodes(), () -> barn.nodes());
            case 1 -> due("edges()", () -> plain.edges(), () -> barn.edges());
            case 2 -> due("degeneracy()", () -> plain.degeneracy(), () -> barn.degeneracy());
            case 3 -> due("changes()", () -> plain.changes(), () -> barn.changes());
            case 4 -> due("hierarchy()", () -> plain.hierarchy(), () -> barn.hierarchy());
            case 5 -> due("denseSize()", () -> plain.denseSize(), () -> barn.denseSize());
            case 6 -> due("density()", () -> plain.density(), () -> barn.density());
            case 7 -> due("triangles()", () -> plain.triangles(), () -> barn.triangles());
            case 8, 9, 10, 11 -> askNode(which);
            case 12, 13, 14 -> askLevel(which);
            default -> askTwo(which);
        }
    }

    private void askNode(int which) {
        int a = node();
        switch (which) {
            case 8 -> due("degree(" + a + ")", () -> plain.degree(a), () -> barn.degree(a));
            case 9 -> due("core(" + a + ")", () -> plain.core(a), () -> barn.core(a));
            case 10 -> due("peeled(" + a + ")", () -> plain.peeled(a), () -> barn.peeled(a));
            default -> due("isDense(" + a + ")", () -> plain.isDense(a), () -> barn.isDense(a));
        }
    }

    private void askLevel(int which) {
        int k = level();
        switch (which) {
            case 12 -> due("coreSize(" + k + ")", () -> plain.coreSize(k), () -> barn.coreSize(k));
            case 13 -> due("communities(" + k + ")",
                    () -> plain.communities(k), () -> barn.communities(k));
            default -> due("trussSize(" + k + ")",
                    () -> plain.trussSize(k), () -> barn.trussSize(k));
        }
    }

    private void askTwo(int which) {
        int a = node();
        int b = node();
        int k = level();
        String pair = "(" + a + ", " + b + ")";
        String levelled = "(" + a + ", " + k + ")";
        switch (which) {
            case 15 -> due("neighbour" + levelled,
                    () -> plain.neighbour(a, k), () -> barn.neighbour(a, k));
            case 16 -> due("areJoined" + pair,
                    () -> plain.areJoined(a, b), () -> barn.areJoined(a, b));
            case 17, 18 -> due("community" + levelled,
                    () -> plain.community(a, k), () -> barn.community(a, k));
            case 19 -> due("together" + pair,
                    () -> plain.together(a, b), () -> barn.together(a, b));
            case 20 -> due("support" + pair, () -> plain.support(a, b), () -> barn.support(a, b));
            default -> due("truss" + pair, () -> plain.truss(a, b), () -> barn.truss(a, b));
        }
    }
}
