/** The graph of the document in its plainest and slowest form, to compare answers with. */
final class PlainGraph {
    private final int n;
    private final boolean[][] arc;

    PlainGraph(int n) {
        this.n = n;
        arc = new boolean[n][n];
    }

    int arc(int from, int to) {
        if (arc[from][to]) {
            return -1;
        }
        arc[from][to] = true;
        int many = 0;
        for (boolean[] row : arc) {
            for (boolean there : row) {
                many += there ? 1 : 0;
            }
        }
        return many;
    }

    boolean cut(int from, int to) {
        boolean there = arc[from][to];
        arc[from][to] = false;
        return there;
    }

    /** A node to which an arc goes, looked for from a node on; that node itself if there is none. */
    int someGoal(int from, int start) {
        for (int i = 0; i < n; i++) {
            if (arc[from][(start + i) % n]) {
                return (start + i) % n;
            }
        }
        return start;
    }

    /** The lengths of all shortest walks of at least one arc, by trying every node between. */
    int[][] walks() {
        int[][] length = new int[n][n];
        for (int i = 0; i < n; i++) {
            for (int j = 0; j < n; j++) {
                length[i][j] = arc[i][j] ? 1 : -1;
            }
        }
        for (int k = 0; k < n; k++) {
            for (int i = 0; i < n; i++) {
                for (int j = 0; j < n; j++) {
                    if (length[i][k] > 0 && length[k][j] > 0) {
                        int by = length[i][k] + length[k][j];
                        length[i][j] = length[i][j] < 0 ? by : Math.min(length[i][j], by);
                    }
                }
            }
        }
        return length;
    }

    boolean[][] reaches() {
        int[][] walks = walks();
        boolean[][] reach = new boolean[n][n];
        for (int i = 0; i < n; i++) {
            for (int j = 0; j < n; j++) {
                reach[i][j] = i == j || walks[i][j] > 0;
            }
        }
        return reach;
    }

    /** The number of each node's part, given as the document says. */
    int[] parts() {
        boolean[][] reach = reaches();
        int[] number = new int[n];
        java.util.Arrays.fill(number, -1);
        for (int next = 0; next < n; next++) {
            int chosen = -1;
            for (int node = n - 1; node >= 0; node--) {
                if (number[node] < 0 && isFree(node, number, reach)) {
                    chosen = node;
                }
            }
            if (chosen < 0) {
                break;
            }
            for (int node = 0; node < n; node++) {
                if (reach[node][chosen] && reach[chosen][node]) {
                    number[node] = next;
                }
            }
        }
        return number;
    }

    private boolean isFree(int node, int[] number, boolean[][] reach) {
        for (int from = 0; from < n; from++) {
            for (int to = 0; to < n; to++) {
                boolean toPart = reach[node][to] && reach[to][node];
                boolean fromPart = reach[node][from] && reach[from][node];
                if (arc[from][to] && toPart && !fromPart && number[from] < 0) {
                    return false;
                }
            }
        }
        return true;
    }

    /** What about(part, 0 .. 6) is to answer. */
    int[] about(int part, int[] number, boolean[][] reach) {
        int[] told = new int[7];
        told[1] = -1;
        boolean[] goal = new boolean[n];
        for (int i = 0; i < n; i++) {
            if (number[i] != part) {
                continue;
            }
            told[0]++;
            told[1] = told[1] < 0 ? i : told[1];
            for (int j = 0; j < n; j++) {
                if (arc[i][j]) {
                    told[number[j] == part ? 2 : 3]++;
                    goal[number[j]] |= number[j] != part;
                }
            }
        }
        for (int d = 0; d < n; d++) {
            if (goal[d]) {
                told[4]++;
                told[5] += isAlone(d, goal, number, reach) ? 1 : 0;
            }
        }
        told[6] = chain(part, number, new int[n]);
        return told;
    }

    private boolean isAlone(int d, boolean[] goal, int[] number, boolean[][] reach) {
        for (int i = 0; i < n; i++) {
            for (int j = 0; j < n; j++) {
                if (number[i] != d && goal[number[i]] && number[j] == d && reach[i][j]) {
                    return false;
                }
            }
        }
        return true;
    }

    private int chain(int part, int[] number, int[] known) {
        if (known[part] == 0) {
            int longest = 1;
            for (int i = 0; i < n; i++) {
                for (int j = 0; j < n; j++) {
                    if (arc[i][j] && number[i] == part && number[j] != part) {
                        longest = Math.max(longest, 1 + chain(number[j], number, known));
                    }
                }
            }
            known[part] = longest;
        }
        return known[part];
    }

    /** Tries every set of arcs, the small ones first. */
    int missing() {
        for (int many = 0; many <= n; many++) {
            if (canJoin(many, 0)) {
                return many;
            }
        }
        return -1;
    }

    private boolean canJoin(int many, int from) {
        if (many == 0) {
            return isOnePart();
        }
        for (int at = from; at < n * n; at++) {
            int i = at / n;
            int j = at % n;
            if (i != j && !arc[i][j]) {
                arc[i][j] = true;
                boolean done = canJoin(many - 1, at + 1);
                arc[i][j] = false;
                if (done) {
                    return true;
                }
            }
        }
        return false;
    }

    private boolean isOnePart() {
        for (boolean[] row : reaches()) {
            for (boolean there : row) {
                if (!there) {
                    return false;
                }
            }
        }
        return true;
    }
}
