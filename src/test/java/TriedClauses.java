import java.util.ArrayList;
import java.util.List;

/**
 * The clauses of the document for many variables, where not every assignment can be tried: a value is
 * tried, what must be then is drawn from the clauses alone, and if that fails, the other value is tried.
 */
final class TriedClauses {
    private final int n;
    private final List<int[]> clauses = new ArrayList<>();

    TriedClauses(int n) {
        this.n = n;
    }

    int clause(int a, int b) {
        clauses.add(new int[] {a, b});
        return clauses.size();
    }

    void drop(int place) {
        clauses.remove(place);
    }

    int size() {
        return clauses.size();
    }

    /** Whether there is an assignment for which the first clauses hold, and with them some literals. */
    private boolean canFirst(int many, int... wanted) {
        int[] values = new int[n + 1];
        for (int literal : wanted) {
            if (!set(values, literal, many)) {
                return false;
            }
        }
        for (int variable = 1; variable <= n; variable++) {
            if (values[variable] == 0) {
                int[] before = values.clone();
                if (!set(values, -variable, many)) {
                    values = before;
                    if (!set(values, variable, many)) {
                        return false;
                    }
                }
            }
        }
        return true;
    }

    /** Makes a literal true, and all that must be then; values are 1, -1, or 0 if not known yet. */
    private boolean set(int[] values, int literal, int many) {
        int[] waiting = new int[n + 1];
        int end = 0;
        if (told(values, literal) == 0) {
            waiting[end++] = literal;
            values[Math.abs(literal)] = Integer.signum(literal);
        }
        boolean fits = told(values, literal) == 1;
        for (int at = 0; at < end && fits; at++) {
            for (int place = 0; place < many && fits; place++) {
                int[] clause = clauses.get(place);
                for (int side = 0; side < 2; side++) {
                    int other = clause[1 - side];
                    if (clause[side] == -waiting[at] && told(values, other) == 0) {
                        waiting[end++] = other;
                        values[Math.abs(other)] = Integer.signum(other);
                    }
                    fits &= clause[side] != -waiting[at] || told(values, other) == 1;
                }
            }
        }
        return fits;
    }

    private static int told(int[] values, int literal) {
        return values[Math.abs(literal)] * Integer.signum(literal);
    }

    boolean can() {
        return canFirst(clauses.size());
    }

    /** The least good assignment: each variable has 0 if that can be with those before it. */
    int[] leastGood() {
        int[] held = new int[0];
        int[] values = new int[n + 1];
        for (int variable = 1; variable <= n; variable++) {
            held = java.util.Arrays.copyOf(held, variable);
            held[variable - 1] = -variable;
            if (!canFirst(clauses.size(), held)) {
                held[variable - 1] = variable;
                values[variable] = 1;
            }
        }
        return values;
    }

    int fixed(int variable) {
        if (!canFirst(clauses.size(), variable)) {
            return 0;
        }
        return canFirst(clauses.size(), -variable) ? 2 : 1;
    }

    boolean implies(int a, int b) {
        return !canFirst(clauses.size(), a, -b);
    }

    int fails() {
        for (int many = 0; many <= clauses.size(); many++) {
            if (!canFirst(many)) {
                return many;
            }
        }
        return -1;
    }

    /** The length of the shortest walk round, and the least variable that has it. */
    int[] round() {
        PlainClauses plain = new PlainClauses(n);
        for (int[] clause : clauses) {
            plain.clause(clause[0], clause[1]);
        }
        return plain.round();
    }

    /** How many literals have none before them that is true in the same good assignments. */
    int classes() {
        int many = 0;
        for (int a = -n; a <= n; a++) {
            boolean first = a != 0;
            for (int b = -n; b < a && first; b++) {
                first = b == 0 || !implies(a, b) || !implies(b, a);
            }
            many += first ? 1 : 0;
        }
        return many;
    }
}
