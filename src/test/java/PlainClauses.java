import java.util.ArrayList;
import java.util.List;

/** The clauses of the document in their plainest form: every assignment is tried. */
final class PlainClauses {
    private final int n;
    private final List<int[]> clauses = new ArrayList<>();
    private List<Integer> good;

    PlainClauses(int n) {
        this.n = n;
    }

    int clause(int a, int b) {
        clauses.add(new int[] {a, b});
        good = null;
        return clauses.size();
    }

    void drop(int place) {
        clauses.remove(place);
        good = null;
    }

    int size() {
        return clauses.size();
    }

    /** The good assignments, the least first: the first variable is the highest bit. */
    private List<Integer> good() {
        if (good == null) {
            good = goodOfFirst(clauses.size());
        }
        return good;
    }

    private List<Integer> goodOfFirst(int many) {
        List<Integer> found = new ArrayList<>();
        for (int assignment = 0; assignment < 1 << n; assignment++) {
            boolean all = true;
            for (int[] clause : clauses.subList(0, many)) {
                all &= isTrue(clause[0], assignment) || isTrue(clause[1], assignment);
            }
            if (all) {
                found.add(assignment);
            }
        }
        return found;
    }

    private boolean isTrue(int literal, int assignment) {
        boolean value = (assignment >> (n - Math.abs(literal)) & 1) == 1;
        return literal > 0 ? value : !value;
    }

    boolean can() {
        return !good().isEmpty();
    }

    int value(int variable) {
        return isTrue(variable, good().get(0)) ? 1 : 0;
    }

    int fixed(int variable) {
        boolean some = false;
        boolean all = true;
        for (int assignment : good()) {
            some |= isTrue(variable, assignment);
            all &= isTrue(variable, assignment);
        }
        return all ? 1 : some ? 2 : 0;
    }

    boolean implies(int a, int b) {
        for (int assignment : good()) {
            if (isTrue(a, assignment) && !isTrue(b, assignment)) {
                return false;
            }
        }
        return true;
    }

    int fails() {
        for (int many = 0; many <= clauses.size(); many++) {
            if (goodOfFirst(many).isEmpty()) {
                return many;
            }
        }
        return -1;
    }

    /** The length of the shortest walk round, and the least variable that has it. */
    int[] round() {
        PlainGraph steps = new PlainGraph(2 * n + 1);
        for (int[] clause : clauses) {
            steps.arc(n - clause[0], n + clause[1]);
            steps.arc(n - clause[1], n + clause[0]);
        }
        int[][] walks = steps.walks();
        int[] best = {-1, -1};
        for (int variable = 1; variable <= n; variable++) {
            int there = walks[n + variable][n - variable];
            int back = walks[n - variable][n + variable];
            if (there > 0 && back > 0 && (best[0] < 0 || there + back < best[0])) {
                best = new int[] {there + back, variable};
            }
        }
        return best;
    }

    int classes() {
        List<List<Boolean>> kinds = new ArrayList<>();
        for (int literal = -n; literal <= n; literal++) {
            List<Boolean> kind = new ArrayList<>();
            for (int assignment : good()) {
                kind.add(literal != 0 && isTrue(literal, assignment));
            }
            if (literal != 0 && !kinds.contains(kind)) {
                kinds.add(kind);
            }
        }
        return kinds.size();
    }
}
