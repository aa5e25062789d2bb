import java.util.Random;

/**
 * Runs of 512 calls of the whole face on one object, wrong arguments among them, every answer compared
 * with the plain forms; the seeds are written down.
 */
public final class MixedModelTest {
    private static final String INDEX = "throws.IndexOutOfBoundsException";
    private static final String ARGUMENT = "throws.IllegalArgumentException";
    private static final String STATE = "throws.IllegalStateException";
    private static final int CALLS = 512;
    private static final Checks CHECKS = new Checks("MixedModelTest");

    private final Random random;
    private final int seed;
    private final ClauseGraph x = new ClauseGraph();
    private int nodes = 1;
    private int variables = 1;
    private PlainGraph graph = new PlainGraph(1);
    private PlainClauses clauses = new PlainClauses(1);

    private MixedModelTest(int seed) {
        this.seed = seed;
        random = new Random(seed);
    }

    public static void main(String[] args) {
        for (int seed = 0; seed < 120; seed++) {
            MixedModelTest run = new MixedModelTest(seed);
            for (int call = 1; call <= CALLS; call++) {
                run.callSomething(call);
            }
        }
        CHECKS.end();
    }

    /** Mostly a number from least to greatest, now and then the one just outside. */
    private int near(int least, int greatest) {
        int kind = random.nextInt(40);
        if (kind == 0) {
            return least - 1;
        }
        return kind == 1 ? greatest + 1 : least + random.nextInt(greatest - least + 1);
    }

    private int literal() {
        int variable = near(1, variables);
        return random.nextBoolean() ? variable : -variable;
    }

    private void callSomething(int call) {
        String at = "seed " + seed + " call " + call + " ";
        int kind = random.nextInt(100);
        if (kind < 1) {
            begin(at);
        } else if (kind < 26) {
            changeGraph(at);
        } else if (kind < 50) {
            askGraph(at);
        } else if (kind < 75) {
            changeClauses(at);
        } else {
            askClauses(at);
        }
    }

    private void due(String what, Answers.Call call, Object want) {
        CHECKS.due(what, Answers.of(x, call), String.valueOf(want));
    }

    private void begin(String at) {
        if (random.nextBoolean()) {
            int n = random.nextInt(8) == 0 ? 161 : random.nextInt(9);
            boolean fits = n >= 1 && n <= 160;
            due(at + "nodes " + n, y -> done(() -> y.nodes(n)), fits ? "done" : ARGUMENT);
            if (fits) {
                nodes = n;
                graph = new PlainGraph(n);
            }
        } else {
            int n = random.nextInt(8) == 0 ? 81 : random.nextInt(6);
            boolean fits = n >= 1 && n <= 80;
            due(at + "variables " + n, y -> done(() -> y.variables(n)), fits ? "done" : ARGUMENT);
            if (fits) {
                variables = n;
                clauses = new PlainClauses(n);
            }
        }
    }

    private static String done(Checks.Deed deed) {
        deed.act();
        return "done";
    }

    private boolean isNode(int node) {
        return node >= 0 && node < nodes;
    }

    private boolean isLiteral(int literal) {
        return literal != 0 && Math.abs(literal) <= variables;
    }

    private void changeGraph(String at) {
        int from = near(0, nodes - 1);
        int to = near(0, nodes - 1);
        boolean there = isNode(from) && isNode(to);
        if (random.nextInt(5) < 3) {
            due(at + "arc " + from + " " + to, y -> y.arc(from, to), there ? graph.arc(from, to) : INDEX);
        } else {
            int goal = there ? graph.someGoal(from, to) : to;
            due(at + "cut " + from + " " + goal, y -> y.cut(from, goal), there ? graph.cut(from, goal) : INDEX);
        }
    }

    private void askGraph(String at) {
        int from = near(0, nodes - 1);
        int to = near(0, nodes - 1);
        boolean there = isNode(from) && isNode(to);
        switch (random.nextInt(6)) {
            case 0:
                due(at + "reaches", y -> y.reaches(from, to), there ? graph.reaches()[from][to] : INDEX);
                break;
            case 1:
                due(at + "walk", y -> y.walk(from, to), there ? graph.walks()[from][to] : INDEX);
                break;
            case 2:
                due(at + "part", y -> y.part(from), isNode(from) ? graph.parts()[from] : INDEX);
                break;
            case 3:
                int side = near(0, 1);
                due(at + "counted", y -> y.counted(from, side), counted(from, side));
                break;
            case 4:
                askParts(at);
                break;
            default:
                int what = near(0, 6);
                int part = near(0, countParts() - 1);
                due(at + "about " + part + " " + what, y -> y.about(part, what), about(part, what));
                break;
        }
    }

    /** What is missing is found by trying, which takes too long for many nodes. */
    private void askParts(String at) {
        if (nodes <= 4 && random.nextBoolean()) {
            due(at + "missing", y -> y.missing(), graph.missing());
        } else {
            due(at + "parts", y -> y.parts(), countParts());
        }
    }

    private Object counted(int node, int what) {
        if (!isNode(node)) {
            return INDEX;
        }
        if (what != 0 && what != 1) {
            return ARGUMENT;
        }
        boolean[][] reach = graph.reaches();
        int many = 0;
        for (int other = 0; other < nodes; other++) {
            many += (what == 0 ? reach[node][other] : reach[other][node]) ? 1 : 0;
        }
        return many;
    }

    private int countParts() {
        int many = 0;
        for (int number : graph.parts()) {
            many = Math.max(many, number + 1);
        }
        return many;
    }

    private Object about(int part, int what) {
        if (part < 0 || part >= countParts()) {
            return INDEX;
        }
        return what < 0 || what > 6 ? ARGUMENT : graph.about(part, graph.parts(), graph.reaches())[what];
    }

    private void changeClauses(String at) {
        if (random.nextInt(3 * variables + 1) < clauses.size()) {
            int place = near(0, clauses.size() - 1);
            boolean there = place >= 0 && place < clauses.size();
            due(at + "drop " + place, y -> done(() -> y.drop(place)), there ? "done" : INDEX);
            if (there) {
                clauses.drop(place);
            }
        } else {
            int a = literal();
            int b = random.nextInt(4) == 0 ? a : literal();
            boolean there = isLiteral(a) && isLiteral(b);
            due(at + "clause " + a + " " + b, y -> y.clause(a, b), there ? clauses.clause(a, b) : ARGUMENT);
        }
    }

    private void askClauses(String at) {
        int variable = near(1, variables);
        boolean wrong = variable < 1 || variable > variables;
        boolean can = clauses.can();
        switch (random.nextInt(8)) {
            case 0:
                due(at + "can", y -> y.can(), can);
                break;
            case 1:
                due(at + "value", y -> y.value(variable), wrong ? ARGUMENT : can ? clauses.value(variable) : STATE);
                break;
            case 2:
                due(at + "fixed", y -> y.fixed(variable), wrong ? ARGUMENT : can ? clauses.fixed(variable) : STATE);
                break;
            case 3:
                due(at + "fails", y -> y.fails(), clauses.fails());
                break;
            case 4:
                due(at + "round", y -> y.round(), clauses.round()[0]);
                break;
            case 5:
                due(at + "rounds", y -> y.rounds(), clauses.round()[1]);
                break;
            case 6:
                due(at + "classes", y -> y.classes(), can ? clauses.classes() : STATE);
                break;
            default:
                int a = literal();
                int b = literal();
                boolean literals = isLiteral(a) && isLiteral(b);
                due(at + "implies", y -> y.implies(a, b), !literals ? ARGUMENT : can ? clauses.implies(a, b) : STATE);
                break;
        }
    }
}
