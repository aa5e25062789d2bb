/** Objects for the tests, each made by a few calls. */
final class Make {
    private Make() {
    }

    /** A graph of n nodes with the arcs that stand in pairs. */
    static ClauseGraph graph(int n, int... ends) {
        ClauseGraph x = new ClauseGraph();
        x.nodes(n);
        for (int i = 0; i + 1 < ends.length; i += 2) {
            x.arc(ends[i], ends[i + 1]);
        }
        return x;
    }

    /** A graph whose nodes are one ring, each with an arc to the next one. */
    static ClauseGraph ring(int n) {
        ClauseGraph x = way(n);
        x.arc(n - 1, 0);
        return x;
    }

    /** A graph whose nodes are one way from node 0 to the last one. */
    static ClauseGraph way(int n) {
        ClauseGraph x = graph(n);
        for (int node = 0; node + 1 < n; node++) {
            x.arc(node, node + 1);
        }
        return x;
    }

    /** n variables and the clauses that stand in pairs. */
    static ClauseGraph clauses(int n, int... literals) {
        ClauseGraph x = new ClauseGraph();
        x.variables(n);
        for (int i = 0; i + 1 < literals.length; i += 2) {
            x.clause(literals[i], literals[i + 1]);
        }
        return x;
    }

    /** n variables and many times the same clause. */
    static ClauseGraph sameClause(int n, int many, int a, int b) {
        ClauseGraph x = clauses(n);
        for (int i = 0; i < many; i++) {
            x.clause(a, b);
        }
        return x;
    }
}
