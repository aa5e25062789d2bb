/** Promises 1 to 11, by hand: ordinary inputs, the edges that the document names, and wrong inputs. */
public final class GraphTest {
    private static final Class<IndexOutOfBoundsException> INDEX = IndexOutOfBoundsException.class;
    private static final Class<IllegalArgumentException> ARGUMENT = IllegalArgumentException.class;
    private static final Checks CHECKS = new Checks("GraphTest");

    public static void main(String[] args) {
        promise1NewObject();
        promise2Nodes();
        promise3Arc();
        promise3AThousandArcs();
        promise4Cut();
        promise4CutFarUp();
        promise5Parts();
        promise6Part();
        promise6PartsTakeTheLeastNodeFirst();
        promise7About();
        promise7Alone();
        promise7Chain();
        promise8Reaches();
        promise9Walk();
        promise10Counted();
        promise11Missing();
        CHECKS.end();
    }

    private static void due(String what, long got, long want) {
        CHECKS.due(what, got, want);
    }

    private static void due(String what, boolean got, boolean want) {
        CHECKS.due(what, got, want);
    }

    private static void promise1NewObject() {
        ClauseGraph x = new ClauseGraph();
        due("1 NONE", ClauseGraph.NONE, -1);
        due("1 parts", x.parts(), 1);
        due("1 part", x.part(0), 0);
        CHECKS.refused("1 part(1)", INDEX, () -> x.part(1));
        due("1 no arc", x.walk(0, 0), -1);
        due("1 first arc", x.arc(0, 0), 1);
        due("1 one variable", x.value(1), 0);
        CHECKS.refused("1 value(2)", ARGUMENT, () -> x.value(2));
        CHECKS.refused("1 no clause", INDEX, () -> x.drop(0));
    }

    private static void promise2Nodes() {
        ClauseGraph x = Make.graph(3, 0, 1, 1, 2);
        x.clause(1, 1);
        for (int n : new int[] {0, -1, 161, Integer.MIN_VALUE, Integer.MAX_VALUE}) {
            CHECKS.refused("2 nodes(" + n + ")", ARGUMENT, () -> x.nodes(n));
        }
        due("2 a refused call changes nothing", x.walk(0, 2), 2);
        x.nodes(160);
        due("2 no arcs", x.parts(), 160);
        due("2 arcs count anew", x.arc(159, 0), 1);
        due("2 clauses stay", x.fixed(1), 1);
        x.nodes(1);
        due("2 one node", x.parts(), 1);
        CHECKS.refused("2 arc(0, 1)", INDEX, () -> x.arc(0, 1));
        x.nodes(1);
        due("2 the same number again", x.arc(0, 0), 1);
        x.nodes(1);
        due("2 arcs are gone then, too", x.walk(0, 0), -1);
    }

    private static void promise3Arc() {
        ClauseGraph x = Make.graph(4);
        due("3 first", x.arc(0, 1), 1);
        due("3 back", x.arc(1, 0), 2);
        due("3 to itself", x.arc(2, 2), 3);
        due("3 again", x.arc(0, 1), -1);
        due("3 again to itself", x.arc(2, 2), -1);
        CHECKS.refused("3 from -1", INDEX, () -> x.arc(-1, 0));
        CHECKS.refused("3 from 4", INDEX, () -> x.arc(4, 0));
        CHECKS.refused("3 to -1", INDEX, () -> x.arc(0, -1));
        CHECKS.refused("3 to 4", INDEX, () -> x.arc(0, 4));
        CHECKS.refused("3 to the least int", INDEX, () -> x.arc(0, Integer.MIN_VALUE));
        due("3 refused ones do not count", x.arc(3, 3), 4);
        x.cut(0, 1);
        due("3 one that was cut comes back", x.arc(0, 1), 4);
        x.variables(1);
        due("3 arcs stay with variables", x.arc(1, 2), 5);
        due("3 taken in after the parts were told", x.parts(), 3);
        x.arc(2, 0);
        due("3 taken in after the parts were told again", x.parts(), 2);
    }

    /** So many arcs take more than the 512 calls of the document; the limit is kept all the same. */
    private static void promise3AThousandArcs() {
        ClauseGraph x = Make.graph(160);
        for (int i = 0; i < 1000; i++) {
            due("3 arc " + (i + 1), x.arc(i % 160, i / 160), i + 1);
        }
        due("3 one too many", x.arc(159, 159), -1);
        due("3 it is not there", x.cut(159, 159), false);
        CHECKS.refused("3 no node comes first", INDEX, () -> x.arc(160, 0));
        x.cut(0, 0);
        due("3 room again", x.arc(159, 159), 1000);
    }

    private static void promise4Cut() {
        ClauseGraph x = Make.graph(3, 0, 1, 1, 2, 2, 0);
        due("4 one part before", x.parts(), 1);
        due("4 not there", x.cut(1, 0), false);
        due("4 there", x.cut(1, 2), true);
        due("4 gone", x.cut(1, 2), false);
        due("4 three parts now", x.parts(), 3);
        due("4 reach is less", x.reaches(1, 0), false);
        due("4 what stays", x.reaches(2, 1), true);
        due("4 the count goes back", x.arc(1, 1), 3);
        due("4 an arc to itself", x.cut(1, 1), true);
        CHECKS.refused("4 from -1", INDEX, () -> x.cut(-1, 0));
        CHECKS.refused("4 from 3", INDEX, () -> x.cut(3, 0));
        CHECKS.refused("4 to -1", INDEX, () -> x.cut(0, -1));
        CHECKS.refused("4 to 3", INDEX, () -> x.cut(0, 3));
    }

    private static void promise4CutFarUp() {
        int[] far = {0, 63, 64, 127, 128, 159};
        ClauseGraph x = Make.graph(160);
        for (int from : far) {
            for (int to : far) {
                x.arc(from, to);
            }
        }
        int left = far.length * far.length;
        for (int from : far) {
            for (int to : far) {
                due("4 cut(" + from + ", " + to + ")", x.cut(from, to), true);
                due("4 gone " + from + ", " + to, x.cut(from, to), false);
                left--;
                due("4 the others stay", x.arc(1, 2), left + 1);
                x.cut(1, 2);
            }
        }
        due("4 all are gone", x.parts(), 160);
    }

    private static void promise5Parts() {
        due("5 no arcs", Make.graph(7).parts(), 7);
        due("5 a way and no way back", Make.graph(4, 0, 1, 1, 2, 2, 3).parts(), 4);
        due("5 a ring", Make.graph(4, 0, 1, 1, 2, 2, 3, 3, 0).parts(), 1);
        due("5 two rings with an arc between", Make.graph(5, 0, 1, 1, 0, 1, 2, 2, 3, 3, 4, 4, 2).parts(), 2);
        due("5 an arc to itself joins nothing", Make.graph(2, 0, 0, 1, 1).parts(), 2);
        due("5 a ring far up", Make.graph(160, 63, 64, 64, 127, 127, 128, 128, 159, 159, 63).parts(), 156);
    }

    private static void promise6Part() {
        ClauseGraph x = Make.graph(5, 4, 3, 3, 2, 2, 1, 1, 0);
        for (int node = 0; node < 5; node++) {
            due("6 backward " + node, x.part(node), 4 - node);
        }
        CHECKS.refused("6 part(-1)", INDEX, () -> x.part(-1));
        CHECKS.refused("6 part(5)", INDEX, () -> x.part(5));
    }

    private static void promise6PartsTakeTheLeastNodeFirst() {
        ClauseGraph x = Make.graph(6, 5, 0, 0, 3, 1, 4, 4, 1);
        int[] want = {3, 0, 1, 4, 0, 2};
        for (int node = 0; node < 6; node++) {
            due("6 least first " + node, x.part(node), want[node]);
        }
        ClauseGraph freed = Make.graph(5, 3, 0, 4, 1, 0, 2);
        int[] wantFreed = {1, 4, 2, 0, 3};
        for (int node = 0; node < 5; node++) {
            due("6 a part is free at once " + node, freed.part(node), wantFreed[node]);
        }
    }

    private static void promise7About() {
        ClauseGraph x = Make.graph(7, 1, 2, 2, 1, 2, 2, 1, 3, 2, 3, 1, 4, 4, 5, 5, 4, 2, 5);
        int[][] want = {
            {1, 0, 0, 0, 0, 0, 1},
            {2, 1, 3, 4, 2, 2, 2},
            {1, 3, 0, 0, 0, 0, 1},
            {2, 4, 2, 0, 0, 0, 1},
            {1, 6, 0, 0, 0, 0, 1},
        };
        due("7 parts", x.parts(), want.length);
        for (int part = 0; part < want.length; part++) {
            for (int what = 0; what <= 6; what++) {
                due("7 about(" + part + ", " + what + ")", x.about(part, what), want[part][what]);
            }
        }
        CHECKS.refused("7 part -1", INDEX, () -> x.about(-1, 0));
        CHECKS.refused("7 part 5", INDEX, () -> x.about(5, 0));
        CHECKS.refused("7 what -1", ARGUMENT, () -> x.about(0, -1));
        CHECKS.refused("7 what 7", ARGUMENT, () -> x.about(4, 7));
        CHECKS.refused("7 both wrong: the one named first", INDEX, () -> x.about(5, 7));
    }

    private static void promise7Alone() {
        due("7 alone to both, asked at once", Make.graph(3, 0, 1, 0, 2).about(0, 5), 2);
        ClauseGraph two = Make.graph(5, 0, 1, 0, 2, 0, 3, 4, 3);
        due("7 alone to three", two.about(two.part(0), 5), 3);
        due("7 then alone to one", two.about(two.part(4), 5), 1);
        ClauseGraph x = Make.graph(4, 0, 1, 1, 2, 2, 3, 0, 2, 0, 3);
        due("7 goes to three", x.about(0, 4), 3);
        due("7 alone to the next only", x.about(0, 5), 1);
        x.cut(1, 2);
        due("7 alone to 1 and 2", x.about(x.part(0), 5), 2);
        x.nodes(5);
        x.arc(0, 1);
        x.arc(0, 4);
        x.arc(1, 2);
        x.arc(2, 3);
        x.arc(3, 4);
        due("7 reached by a long way from another goal", x.about(0, 5), 1);
        x.arc(4, 3);
        due("7 the goal is a ring", x.about(0, 5), 1);
        due("7 in the ring", x.about(x.part(4), 0), 2);
    }

    private static void promise7Chain() {
        ClauseGraph x = Make.graph(6, 0, 5, 0, 1, 1, 2, 2, 3, 3, 5, 4, 4);
        due("7 the longest chain", x.about(x.part(0), 6), 5);
        due("7 from its middle", x.about(x.part(2), 6), 3);
        due("7 nowhere, but to itself", x.about(x.part(4), 6), 1);
        due("7 its end", x.about(x.part(5), 6), 1);
        ClauseGraph all = Make.graph(160);
        for (int node = 159; node > 0; node--) {
            all.arc(node, node - 1);
        }
        due("7 the longest chain of all", all.about(0, 6), 160);
        due("7 its first part", all.about(0, 1), 159);
    }

    private static void promise8Reaches() {
        ClauseGraph x = Make.graph(4, 0, 1, 1, 2);
        due("8 one arc", x.reaches(0, 1), true);
        due("8 two arcs", x.reaches(0, 2), true);
        due("8 not back", x.reaches(2, 0), false);
        due("8 itself", x.reaches(3, 3), true);
        due("8 a lone node", x.reaches(0, 3), false);
        CHECKS.refused("8 from -1", INDEX, () -> x.reaches(-1, 0));
        CHECKS.refused("8 from 4", INDEX, () -> x.reaches(4, 0));
        CHECKS.refused("8 to -1", INDEX, () -> x.reaches(0, -1));
        CHECKS.refused("8 to 4", INDEX, () -> x.reaches(0, 4));
    }

    private static void promise9Walk() {
        ClauseGraph x = Make.graph(6, 0, 1, 1, 2, 2, 3, 3, 0, 0, 2, 4, 4);
        due("9 an arc", x.walk(0, 1), 1);
        due("9 the short way", x.walk(0, 3), 2);
        due("9 round", x.walk(0, 0), 3);
        due("9 the longer round", x.walk(1, 1), 4);
        due("9 an arc to itself", x.walk(4, 4), 1);
        due("9 no way to itself", x.walk(5, 5), -1);
        due("9 no way", x.walk(0, 4), -1);
        CHECKS.refused("9 from -1", INDEX, () -> x.walk(-1, 0));
        CHECKS.refused("9 from 6", INDEX, () -> x.walk(6, 0));
        CHECKS.refused("9 to -1", INDEX, () -> x.walk(0, -1));
        CHECKS.refused("9 to 6", INDEX, () -> x.walk(0, 6));
        ClauseGraph ring = Make.graph(160);
        for (int node = 0; node < 160; node++) {
            ring.arc(node, (node + 1) % 160);
        }
        due("9 the longest round", ring.walk(77, 77), 160);
        due("9 the longest way", ring.walk(77, 76), 159);
    }

    private static void promise10Counted() {
        ClauseGraph x = Make.graph(5, 0, 1, 1, 2, 2, 1, 3, 1);
        due("10 ahead of 0", x.counted(0, 0), 3);
        due("10 behind 0", x.counted(0, 1), 1);
        due("10 ahead of 1", x.counted(1, 0), 2);
        due("10 behind 1", x.counted(1, 1), 4);
        due("10 a lone node ahead", x.counted(4, 0), 1);
        due("10 a lone node behind", x.counted(4, 1), 1);
        CHECKS.refused("10 node -1", INDEX, () -> x.counted(-1, 0));
        CHECKS.refused("10 node 5", INDEX, () -> x.counted(5, 0));
        CHECKS.refused("10 what -1", ARGUMENT, () -> x.counted(0, -1));
        CHECKS.refused("10 what 2", ARGUMENT, () -> x.counted(0, 2));
        CHECKS.refused("10 both wrong: the one named first", INDEX, () -> x.counted(5, 2));
    }

    private static void promise11Missing() {
        due("11 one node", new ClauseGraph().missing(), 0);
        due("11 two lone nodes", Make.graph(2).missing(), 2);
        due("11 a way", Make.graph(4, 0, 1, 1, 2, 2, 3).missing(), 1);
        due("11 a ring", Make.graph(3, 0, 1, 1, 2, 2, 0).missing(), 0);
        due("11 one to three", Make.graph(4, 0, 1, 0, 2, 0, 3).missing(), 3);
        due("11 three to one", Make.graph(4, 1, 0, 2, 0, 3, 0).missing(), 3);
        due("11 a lone node is first and last", Make.graph(4, 0, 1, 0, 2).missing(), 3);
        due("11 arcs to itself help nothing", Make.graph(2, 0, 0, 1, 1).missing(), 2);
        due("11 two ways", Make.graph(4, 0, 1, 2, 3).missing(), 2);
    }
}
