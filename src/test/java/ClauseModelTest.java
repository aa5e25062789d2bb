import java.util.Random;

/**
 * Long runs on clauses, every answer compared with the plain form; the seeds are written down. The
 * runs go on beyond the 512 calls that the document promises, since the form of the class allows it.
 */
public final class ClauseModelTest {
    private static final Checks CHECKS = new Checks("ClauseModelTest");

    public static void main(String[] args) {
        for (int seed = 0; seed < 200; seed++) {
            run(seed, 1 + seed % 8);
        }
        everyRowOfClauses(1, 4);
        everyRowOfClauses(2, 4);
        everyRowOfClauses(3, 2);
        aLongRingOfEighty();
        manyClausesOfEighty();
        CHECKS.end();
    }

    private static int literal(Random random, int n) {
        int variable = 1 + random.nextInt(n);
        return random.nextBoolean() ? variable : -variable;
    }

    private static void run(int seed, int n) {
        Random random = new Random(seed);
        ClauseGraph x = new ClauseGraph();
        x.variables(n);
        PlainClauses plain = new PlainClauses(n);
        int mostClauses = 2 * n + seed % 5;
        for (int turn = 0; turn < 60; turn++) {
            String at = "seed " + seed + " turn " + turn + " ";
            if (plain.size() > 0 && random.nextInt(mostClauses) < plain.size()) {
                int place = random.nextInt(plain.size());
                x.drop(place);
                plain.drop(place);
            } else {
                int a = literal(random, n);
                int b = literal(random, n);
                CHECKS.due(at + "clause", x.clause(a, b), plain.clause(a, b));
            }
            if (turn % 3 != 0) {
                lookAtAll(at, x, plain, n);
            }
        }
    }

    private static void lookAtAll(String at, ClauseGraph x, PlainClauses plain, int n) {
        int[] round = plain.round();
        CHECKS.due(at + "rounds", x.rounds(), round[1]);
        CHECKS.due(at + "round", x.round(), round[0]);
        CHECKS.due(at + "fails", x.fails(), plain.fails());
        CHECKS.due(at + "can", x.can(), plain.can());
        if (!plain.can()) {
            CHECKS.refused(at + "value", IllegalStateException.class, () -> x.value(1));
            CHECKS.refused(at + "fixed", IllegalStateException.class, () -> x.fixed(n));
            CHECKS.refused(at + "implies", IllegalStateException.class, () -> x.implies(1, -n));
            CHECKS.refused(at + "classes", IllegalStateException.class, () -> x.classes());
            return;
        }
        CHECKS.due(at + "classes", x.classes(), plain.classes());
        for (int variable = 1; variable <= n; variable++) {
            CHECKS.due(at + "value", x.value(variable), plain.value(variable));
            CHECKS.due(at + "fixed", x.fixed(variable), plain.fixed(variable));
        }
        for (int a = -n; a <= n; a++) {
            for (int b = -n; b <= n; b++) {
                if (a != 0 && b != 0) {
                    CHECKS.due(at + "implies", x.implies(a, b), plain.implies(a, b));
                }
            }
        }
    }

    /** Every row of so many clauses, each with both orders of its literals. */
    private static void everyRowOfClauses(int n, int many) {
        int kinds = 4 * n * n;
        int rows = 1;
        for (int i = 0; i < many; i++) {
            rows *= kinds;
        }
        for (int row = 0; row < rows; row++) {
            ClauseGraph x = new ClauseGraph();
            x.variables(n);
            PlainClauses plain = new PlainClauses(n);
            int left = row;
            for (int i = 0; i < many; i++) {
                int a = literalOf(left % (2 * n), n);
                int b = literalOf(left / (2 * n) % (2 * n), n);
                x.clause(a, b);
                plain.clause(a, b);
                left /= kinds;
            }
            lookAtAll(n + " variables, row " + row + ": ", x, plain, n);
        }
    }

    private static int literalOf(int number, int n) {
        return number < n ? number + 1 : n - 1 - number;
    }

    private static void aLongRingOfEighty() {
        ClauseGraph x = new ClauseGraph();
        x.variables(80);
        for (int variable = 1; variable < 80; variable++) {
            x.clause(-variable, variable + 1);
        }
        CHECKS.due("80: a way", x.implies(1, 80), true);
        CHECKS.due("80: classes of a way", x.classes(), 160);
        x.clause(-80, 1);
        CHECKS.due("80: a ring has two classes", x.classes(), 2);
        x.drop(79);
        x.clause(-80, -1);
        CHECKS.due("80: the first must be 0", x.fixed(1), 0);
        CHECKS.due("80: the last is free", x.fixed(80), 2);
        x.clause(1, 80);
        CHECKS.due("80: then the last must be 1", x.fixed(80), 1);
        x.drop(80);
        x.clause(1, 1);
        CHECKS.due("80: fails", x.fails(), 81);
        CHECKS.due("80: 80 steps there, one back", x.round(), 81);
        CHECKS.due("80: round of", x.rounds(), 1);
    }

    /** Clauses that all hold for one hidden assignment, so that they never fail. */
    private static void manyClausesOfEighty() {
        Random random = new Random(80);
        ClauseGraph x = new ClauseGraph();
        x.variables(80);
        boolean[] hidden = new boolean[81];
        for (int variable = 1; variable <= 80; variable++) {
            hidden[variable] = random.nextBoolean();
        }
        int many = 0;
        int[][] made = new int[400][];
        while (many < 110) {
            int a = literal(random, 80);
            int b = literal(random, 80);
            if (a > 0 == hidden[Math.abs(a)] || b > 0 == hidden[Math.abs(b)]) {
                made[many] = new int[] {a, b};
                many++;
                CHECKS.due("hidden: clause", x.clause(a, b), many);
            }
        }
        CHECKS.due("hidden: can", x.can(), true);
        for (int i = 0; i < many; i++) {
            CHECKS.due("hidden: holds", holds(x, made[i][0]) || holds(x, made[i][1]), true);
        }
        theLeastIsLeast(x);
    }

    private static boolean holds(ClauseGraph x, int literal) {
        return (x.value(Math.abs(literal)) == 1) == literal > 0;
    }

    /** A variable with 1 may not take 0 while those before it keep their values. */
    private static void theLeastIsLeast(ClauseGraph x) {
        int[] values = new int[81];
        for (int variable = 1; variable <= 80; variable++) {
            values[variable] = x.value(variable);
        }
        for (int variable = 1; variable <= 80; variable++) {
            boolean forced = x.fixed(variable) == 1;
            for (int before = 1; before < variable && !forced; before++) {
                forced = x.implies(values[before] == 1 ? before : -before, variable);
            }
            if (values[variable] == 1) {
                CHECKS.due("hidden: 1 is forced", forced, true);
            }
        }
    }
}
