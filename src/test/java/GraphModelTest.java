import java.util.Random;

/**
 * Long runs on graphs, every answer compared with the plain form; the seeds are written down. The
 * runs go on beyond the 512 calls that the document promises, since the form of the class allows it.
 */
public final class GraphModelTest {
    private static final Checks CHECKS = new Checks("GraphModelTest");

    public static void main(String[] args) {
        for (int seed = 0; seed < 150; seed++) {
            run(seed, 1 + seed % 12, 2);
        }
        run(1000, 40, 9);
        run(1001, 65, 15);
        run(1002, 130, 40);
        run(1003, 160, 50);
        smallGraphsNeedWhatIsMissing();
        everySmallGraph(1, true);
        everySmallGraph(2, true);
        everySmallGraph(3, true);
        everySmallGraph(4, false);
        CHECKS.end();
    }

    private static void run(int seed, int n, int turnsBetweenLooks) {
        Random random = new Random(seed);
        ClauseGraph x = new ClauseGraph();
        x.nodes(n);
        PlainGraph plain = new PlainGraph(n);
        int cutsOfTen = 1 + seed % 4;
        for (int turn = 0; turn < 120; turn++) {
            String at = "seed " + seed + " turn " + turn + " ";
            int from = random.nextInt(n);
            int to = random.nextInt(n);
            if (random.nextInt(10) < cutsOfTen) {
                to = plain.someGoal(from, to);
                CHECKS.due(at + "cut", x.cut(from, to), plain.cut(from, to));
            } else {
                CHECKS.due(at + "arc", x.arc(from, to), plain.arc(from, to));
            }
            if (turn % turnsBetweenLooks == 0) {
                lookAtAll(at, x, plain, n);
            }
        }
    }

    private static void lookAtAll(String at, ClauseGraph x, PlainGraph plain, int n) {
        boolean[][] reach = plain.reaches();
        int[][] walks = plain.walks();
        int[] number = plain.parts();
        int parts = 0;
        for (int i = 0; i < n; i++) {
            int ahead = 0;
            int behind = 0;
            for (int j = 0; j < n; j++) {
                CHECKS.due(at + "reaches", x.reaches(i, j), reach[i][j]);
                CHECKS.due(at + "walk", x.walk(i, j), walks[i][j]);
                ahead += reach[i][j] ? 1 : 0;
                behind += reach[j][i] ? 1 : 0;
            }
            CHECKS.due(at + "counted ahead", x.counted(i, 0), ahead);
            CHECKS.due(at + "counted behind", x.counted(i, 1), behind);
            CHECKS.due(at + "part", x.part(i), number[i]);
            parts = Math.max(parts, number[i] + 1);
        }
        CHECKS.due(at + "parts", x.parts(), parts);
        for (int part = 0; part < parts; part++) {
            int[] told = plain.about(part, number, reach);
            for (int what = 0; what < told.length; what++) {
                CHECKS.due(at + "about " + what, x.about(part, what), told[what]);
            }
        }
    }

    private static void smallGraphsNeedWhatIsMissing() {
        for (int seed = 0; seed < 300; seed++) {
            Random random = new Random(seed);
            int n = 1 + seed % 5;
            ClauseGraph x = new ClauseGraph();
            x.nodes(n);
            PlainGraph plain = new PlainGraph(n);
            for (int turn = random.nextInt(2 * n); turn >= 0; turn--) {
                int from = random.nextInt(n);
                int to = random.nextInt(n);
                x.arc(from, to);
                plain.arc(from, to);
            }
            CHECKS.due("seed " + seed + " missing", x.missing(), plain.missing());
        }
    }

    /** Every graph of n nodes, with or without arcs from a node to itself. */
    private static void everySmallGraph(int n, boolean toItself) {
        int pairs = n * n;
        for (int arcs = 0; arcs < 1 << pairs; arcs++) {
            if (toItself || !hasOneToItself(n, arcs)) {
                ClauseGraph x = new ClauseGraph();
                x.nodes(n);
                PlainGraph plain = new PlainGraph(n);
                for (int pair = 0; pair < pairs; pair++) {
                    if ((arcs >> pair & 1) == 1) {
                        x.arc(pair / n, pair % n);
                        plain.arc(pair / n, pair % n);
                    }
                }
                String at = n + " nodes, arcs " + Integer.toBinaryString(arcs) + ": ";
                lookAtAll(at, x, plain, n);
                CHECKS.due(at + "missing", x.missing(), plain.missing());
            }
        }
    }

    private static boolean hasOneToItself(int n, int arcs) {
        for (int node = 0; node < n; node++) {
            if ((arcs >> node * n + node & 1) == 1) {
                return true;
            }
        }
        return false;
    }
}
