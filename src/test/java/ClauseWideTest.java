import java.util.Random;

/**
 * Runs on many variables, every answer compared with what trying finds; the seeds are written down. Each
 * object is asked anew after some changes, beyond the 512 calls that the document promises.
 */
public final class ClauseWideTest {
    private static final Checks CHECKS = new Checks("ClauseWideTest");

    public static void main(String[] args) {
        int[] sizes = {9, 17, 32, 33, 64, 65, 80};
        for (int i = 0; i < sizes.length; i++) {
            run(i, sizes[i], sizes[i] * 3 / 5, false);
            run(100 + i, sizes[i], sizes[i], false);
            run(200 + i, sizes[i], sizes[i] * 3 / 2, true);
            run(300 + i, sizes[i], sizes[i] * 3 / 2, false);
        }
        run(400, 80, 390, true);
        run(401, 80, 390, false);
        CHECKS.end();
    }

    /** If they shall be good, all clauses hold for one hidden assignment. */
    private static void run(int seed, int n, int many, boolean good) {
        Random random = new Random(seed);
        boolean[] hidden = new boolean[n + 1];
        for (int variable = 1; variable <= n; variable++) {
            hidden[variable] = random.nextBoolean();
        }
        ClauseGraph x = new ClauseGraph();
        x.variables(n);
        TriedClauses tried = new TriedClauses(n);
        for (int turn = 0; turn < 2; turn++) {
            String at = "seed " + seed + " turn " + turn + " ";
            for (int drops = 0; drops < many / 3 && turn > 0; drops++) {
                int place = random.nextInt(tried.size());
                x.drop(place);
                tried.drop(place);
            }
            while (tried.size() < many) {
                int a = literal(random, n);
                int b = random.nextInt(20) == 0 ? a : literal(random, n);
                if (!good || hidden[Math.abs(a)] == a > 0 || hidden[Math.abs(b)] == b > 0) {
                    CHECKS.due(at + "clause", x.clause(a, b), tried.clause(a, b));
                }
            }
            lookAtAll(at, x, tried, n, random);
        }
    }

    private static int literal(Random random, int n) {
        int variable = 1 + random.nextInt(n);
        return random.nextBoolean() ? variable : -variable;
    }

    private static void lookAtAll(String at, ClauseGraph x, TriedClauses tried, int n, Random random) {
        int[] round = tried.round();
        CHECKS.due(at + "rounds", x.rounds(), round[1]);
        CHECKS.due(at + "round", x.round(), round[0]);
        CHECKS.due(at + "fails", x.fails(), tried.fails());
        CHECKS.due(at + "can", x.can(), tried.can());
        if (!tried.can()) {
            CHECKS.refused(at + "value", IllegalStateException.class, () -> x.value(n));
            return;
        }
        int[] values = tried.leastGood();
        for (int variable = 1; variable <= n; variable++) {
            CHECKS.due(at + "value " + variable, x.value(variable), values[variable]);
            CHECKS.due(at + "fixed " + variable, x.fixed(variable), tried.fixed(variable));
        }
        for (int turn = 0; turn < 1000; turn++) {
            int a = literal(random, n);
            int b = literal(random, n);
            CHECKS.due(at + "implies " + a + " " + b, x.implies(a, b), tried.implies(a, b));
        }
        CHECKS.due(at + "classes", x.classes(), tried.classes());
    }
}
