/**
 * The sentences of the document about the graph that name a boundary case. Each has a test of its own,
 * with the sentence above it: the value at the boundary, just inside it, and just outside it.
 */
public final class GraphEdgeTest {
    private static final Class<IndexOutOfBoundsException> INDEX = IndexOutOfBoundsException.class;
    private static final Class<IllegalArgumentException> ARGUMENT = IllegalArgumentException.class;
    private static final int NONE = ClauseGraph.NONE;
    private static final int LEAST = Integer.MIN_VALUE;
    private static final int GREATEST = Integer.MAX_VALUE;
    private static final int[] SIZES = {1, 2, 63, 64, 65, 128, 129, 159, 160};
    private static final Checks CHECKS = new Checks("GraphEdgeTest");

    /** A method that takes one node. */
    private interface OnNode {
        void call(ClauseGraph x, int node);
    }

    /** A method that takes two nodes. */
    private interface OnNodes {
        void call(ClauseGraph x, int from, int to);
    }

    public static void main(String[] args) {
        theLastOfThe512Calls();
        terms();
        promises1To4();
        promises5To7();
        promises8To11();
        CHECKS.end();
    }

    private static void terms() {
        nodesGoUpTo160();
        anArcPerhapsToTheSameNode();
        aThousandArcsAtMost();
        eachArcOnce();
        aWalkAreArcsBehindOneAnother();
        aNodeReachesItselfAlways();
        aPartAreAllNodesThatReachOneAnother();
        partsAreNumberedFrom0();
        theNextPartHasTheLeastNode();
        noArcLeadsToTheNextPart();
        aPartDoesNotGoToItself();
        aloneIfNoOtherGoalReachesIt();
        aPartReachesWhatItsNodesReach();
        aChainGoesOnFromPartToPart();
        theOneNamedFirst();
    }

    private static void promises1To4() {
        aNewGraphHasOneNodeWithoutArcs();
        nodesThereAre();
        nodesTakeTheArcsAway();
        clausesStayWithNodes();
        nodesAre1To160();
        anArcMoreAlsoToItself();
        arcAnswersHowManyThereAre();
        arcAnswersNoneWhenItIsThere();
        arcAnswersNoneWhenThereAreAThousand();
        arcNeedsItsNodes();
        cutTakesJustThatArc();
        cutAnswersWhetherItWasThere();
        cutNeedsItsNodes();
    }

    private static void promises5To7() {
        partsAre1AtLeastAndAllNodesAtMost();
        partIsTheNumberOfANodesPart();
        partNeedsItsNode();
        aboutNodesOfAPart();
        aboutTheLeastNode();
        aboutArcsBetweenItsNodes();
        aboutArcsToOtherParts();
        aboutPartsToWhichItGoes();
        aboutPartsToWhichItGoesAlone();
        aboutTheLongestChain();
        aboutAPartThatGoesNowhere();
        aboutAnArcToItself();
        aboutNeedsItsPart();
        aboutNeedsItsWhat();
    }

    private static void promises8To11() {
        reachesWithAndWithoutTheLastArc();
        reachesNeedsItsNodes();
        walkIsTheShortest();
        walkBackIsNever0();
        walkIsNoneWhenThereIsNone();
        walkNeedsItsNodes();
        countedAhead();
        countedBehind();
        countedNeedsItsNode();
        countedNeedsItsWhat();
        missingIsTheLeastNumber();
        missingIs0IfTheyAreOnePart();
    }

    private static void due(String what, long got, long want) {
        CHECKS.due(what, got, want);
    }

    private static void due(String what, boolean got, boolean want) {
        CHECKS.due(what, got, want);
    }

    private static void due(String what, int[] got, int... want) {
        due(what + ": how many", got.length, want.length);
        for (int i = 0; i < want.length; i++) {
            due(what + " " + i, got[i], want[i]);
        }
    }

    private static int[] partOfEach(ClauseGraph x, int n) {
        int[] told = new int[n];
        for (int node = 0; node < n; node++) {
            told[node] = x.part(node);
        }
        return told;
    }

    /** "IndexOutOfBoundsException: there is no such node.", for a method that takes one. */
    private static void needsItsNode(String name, OnNode method) {
        for (int n : SIZES) {
            ClauseGraph x = Make.graph(n);
            method.call(x, 0);
            method.call(x, n - 1);
            for (int none : new int[] {-1, n, n + 1, LEAST, GREATEST}) {
                CHECKS.refused(name + " " + none + " of " + n, INDEX, () -> method.call(x, none));
            }
        }
        ClauseGraph x = Make.graph(160);
        method.call(x, 159);
        x.nodes(3);
        method.call(x, 2);
        CHECKS.refused(name + " 3 is gone", INDEX, () -> method.call(x, 3));
        CHECKS.refused(name + " 159 is gone", INDEX, () -> method.call(x, 159));
        x.nodes(4);
        method.call(x, 3);
    }

    /** "IndexOutOfBoundsException: there is no such node.", for a method that takes two. */
    private static void needsItsNodes(String name, OnNodes method) {
        needsItsNode(name + " from", (x, node) -> method.call(x, node, 0));
        needsItsNode(name + " to", (x, node) -> method.call(x, 0, node));
        needsItsNode(name + " from and to", (x, node) -> method.call(x, node, node));
    }

    /** "An object is used for at most 512 calls after it has been made" */
    private static void theLastOfThe512Calls() {
        ClauseGraph x = Make.graph(160);
        int calls = 1;
        for (; calls < 510; calls++) {
            due("512 calls: arc", x.arc(calls % 160, calls / 160 * 7 % 160), calls);
        }
        due("call 511", x.arc(159, 159), 510);
        due("call 512", x.walk(159, 159), 1);
    }

    /** "THE GRAPH has nodes 0, 1, .., up to 160" */
    private static void nodesGoUpTo160() {
        ClauseGraph x = Make.graph(159);
        due("terms: the last of 159", x.part(158), 158);
        CHECKS.refused("terms: no 159", INDEX, () -> x.part(159));
        x.nodes(160);
        due("terms: the first of 160", x.part(0), 0);
        due("terms: the last of 160", x.part(159), 159);
        CHECKS.refused("terms: no 160", INDEX, () -> x.part(160));
        CHECKS.refused("terms: no -1", INDEX, () -> x.part(-1));
    }

    /** "ARCS from node to node (perhaps the same one)" */
    private static void anArcPerhapsToTheSameNode() {
        for (int n : SIZES) {
            ClauseGraph x = Make.graph(n);
            due("terms: the first to itself, of " + n, x.arc(0, 0), 1);
            due("terms: the last to itself, of " + n, x.arc(n - 1, n - 1), n == 1 ? NONE : 2);
            due("terms: it is there, of " + n, x.walk(n - 1, n - 1), 1);
        }
    }

    /** Some thousand different arcs of 160 nodes. The 512 calls of the document are not enough for it. */
    private static ClauseGraph manyArcs(int many) {
        ClauseGraph x = Make.graph(160);
        for (int i = 0; i < many; i++) {
            x.arc(i % 160, i / 160);
        }
        return x;
    }

    /** "1000 at most" */
    private static void aThousandArcsAtMost() {
        ClauseGraph x = manyArcs(998);
        due("terms: arc 999", x.arc(159, 157), 999);
        due("terms: arc 1000", x.arc(159, 158), 1000);
        due("terms: arc 1001", x.arc(159, 159), NONE);
        due("terms: it is not there", x.walk(159, 159) == 1, false);
        due("terms: the last one is there", x.walk(159, 158), 1);
    }

    /** "each once" */
    private static void eachArcOnce() {
        ClauseGraph x = Make.graph(2);
        due("terms: once", x.arc(0, 1), 1);
        due("terms: not twice", x.arc(0, 1), NONE);
        due("terms: back is another one", x.arc(1, 0), 2);
        due("terms: one goes", x.cut(0, 1), true);
        due("terms: no other is left", x.cut(0, 1), false);
        due("terms: once again", x.arc(0, 1), 2);
    }

    /** "A WALK are arcs behind one another." */
    private static void aWalkAreArcsBehindOneAnother() {
        due("terms: a walk of one arc", Make.graph(3, 0, 1).walk(0, 1), 1);
        due("terms: behind one another", Make.graph(3, 0, 1, 1, 2).walk(0, 2), 2);
        due("terms: toward one another", Make.graph(3, 0, 1, 2, 1).walk(0, 2), NONE);
        due("terms: away from one another", Make.graph(3, 1, 0, 1, 2).walk(0, 2), NONE);
        due("terms: with a gap", Make.graph(4, 0, 1, 2, 3).walk(0, 3), NONE);
    }

    /** "A node REACHES another one if a walk leads there; itself always." */
    private static void aNodeReachesItselfAlways() {
        for (int n : SIZES) {
            ClauseGraph x = Make.graph(n);
            due("terms: the first of " + n + " reaches itself", x.reaches(0, 0), true);
            due("terms: the last of " + n + " reaches itself", x.reaches(n - 1, n - 1), true);
            due("terms: the first of " + n + " reaches the last", x.reaches(0, n - 1), n == 1);
            x.arc(n - 1, n - 1);
            due("terms: with an arc to itself, too", x.reaches(n - 1, n - 1), true);
            x.cut(n - 1, n - 1);
            due("terms: and when that is gone", x.reaches(n - 1, n - 1), true);
        }
    }

    /** "A PART are all nodes that reach one another." */
    private static void aPartAreAllNodesThatReachOneAnother() {
        for (int n : new int[] {2, 64, 65, 160}) {
            ClauseGraph x = Make.way(n);
            due("terms: one arc too few, " + n, x.parts(), n);
            x.arc(n - 1, 1);
            due("terms: all but the first, " + n, x.parts(), 2);
            due("terms: the first is alone, " + n, x.about(0, 0), 1);
            x.arc(1, 0);
            due("terms: all, " + n, x.parts(), 1);
        }
        ClauseGraph meeting = Make.graph(3, 0, 2, 1, 2);
        due("terms: to reach the same is not enough", meeting.parts(), 3);
        ClauseGraph leaving = Make.graph(3, 0, 1, 0, 2);
        due("terms: to be reached by the same is not enough", leaving.parts(), 3);
    }

    /** "PARTS ARE NUMBERED 0, 1, .." */
    private static void partsAreNumberedFrom0() {
        due("terms: the only one", new ClauseGraph().part(0), 0);
        due("terms: two", partOfEach(Make.graph(2), 2), 0, 1);
        ClauseGraph x = Make.graph(160);
        for (int node = 0; node < 160; node++) {
            due("terms: without arcs", x.part(node), node);
        }
        due("terms: nodes of one part have one number", partOfEach(Make.graph(4, 0, 3, 3, 0), 4), 0, 1, 2, 0);
    }

    /** "the next one is always, of those .., the one with the least node" */
    private static void theNextPartHasTheLeastNode() {
        ClauseGraph x = Make.graph(5, 4, 0, 0, 4, 1, 3, 3, 1);
        due("terms: the least of each part counts, not the greatest", partOfEach(x, 5), 0, 1, 2, 1, 0);
        ClauseGraph freed = Make.graph(4, 2, 0);
        due("terms: a part that is free now comes before greater ones", partOfEach(freed, 4), 2, 0, 1, 3);
        ClauseGraph first = Make.graph(4, 1, 0);
        due("terms: and at once", partOfEach(first, 4), 1, 0, 2, 3);
        ClauseGraph far = Make.graph(160, 159, 0);
        due("terms: the least waits for the greatest", far.part(0), 159);
        due("terms: the greatest comes before it", far.part(159), 158);
    }

    /** "of those to which no arc leads from a node of a part without number" */
    private static void noArcLeadsToTheNextPart() {
        ClauseGraph one = Make.graph(3, 1, 0);
        due("terms: waits for one", partOfEach(one, 3), 1, 0, 2);
        ClauseGraph both = Make.graph(3, 1, 0, 2, 0);
        due("terms: waits for both", partOfEach(both, 3), 2, 0, 1);
        ClauseGraph way = Make.graph(3, 2, 1, 1, 0);
        due("terms: waits for what waits", partOfEach(way, 3), 2, 1, 0);
        ClauseGraph inner = Make.graph(3, 0, 0, 1, 2, 2, 1);
        due("terms: its own arcs do not count", partOfEach(inner, 3), 0, 1, 1);
        ClauseGraph other = Make.graph(4, 0, 2, 2, 0, 3, 2);
        due("terms: an arc to any node of it counts", partOfEach(other, 4), 2, 0, 2, 1);
    }

    /** "Part c goes to part d if an arc goes from a node of c to one of d, c and d being two" */
    private static void aPartDoesNotGoToItself() {
        ClauseGraph x = Make.graph(3, 0, 0, 0, 1, 1, 0);
        due("terms: only to itself", x.about(0, 4), 0);
        x.arc(1, 2);
        due("terms: from any node to another part", x.about(0, 4), 1);
        due("terms: not back", x.about(1, 4), 0);
    }

    /** "it goes there ALONE if no other part to which c goes reaches d" */
    private static void aloneIfNoOtherGoalReachesIt() {
        ClauseGraph x = Make.graph(4, 0, 3, 1, 3, 0, 2);
        due("terms: another part reaches it, but 0 does not go there", x.about(x.part(0), 5), 2);
        x.arc(0, 1);
        due("terms: now 0 goes there", x.about(x.part(0), 4), 3);
        due("terms: so 3 is not alone", x.about(x.part(0), 5), 2);
        x.cut(1, 3);
        due("terms: it reaches 3 no more", x.about(x.part(0), 5), 3);
        ClauseGraph itself = Make.graph(3, 0, 1, 1, 2, 2, 1, 1, 1);
        due("terms: that it reaches itself does not hinder", itself.about(0, 5), 1);
    }

    /** "(a part reaches what its nodes reach)" */
    private static void aPartReachesWhatItsNodesReach() {
        ClauseGraph x = Make.graph(5, 0, 1, 1, 2, 2, 1, 0, 4);
        due("terms: a ring that does not lead to 4", x.about(0, 5), 2);
        x.arc(2, 3);
        due("terms: a way that ends before 4", x.about(0, 5), 2);
        x.arc(3, 4);
        due("terms: by another node of the ring, through a part that is no goal", x.about(0, 5), 1);
    }

    /** "A CHAIN of parts: each goes to the next one." */
    private static void aChainGoesOnFromPartToPart() {
        ClauseGraph x = Make.graph(5, 0, 1, 2, 3, 3, 4);
        due("terms: a chain of two", x.about(x.part(0), 6), 2);
        due("terms: a chain of three", x.about(x.part(2), 6), 3);
        x.arc(1, 2);
        due("terms: both are one", x.about(x.part(0), 6), 5);
        x.arc(2, 0);
        due("terms: a ring of them counts once", x.about(0, 6), 3);
    }

    /** "Methods throw what their comments name, the one named first when several would do" */
    private static void theOneNamedFirst() {
        ClauseGraph x = Make.graph(2);
        CHECKS.refused("about: no part and another what", INDEX, () -> x.about(2, 7));
        CHECKS.refused("about: no part -1 and what -1", INDEX, () -> x.about(-1, -1));
        CHECKS.refused("about: the part is there", ARGUMENT, () -> x.about(1, 7));
        CHECKS.refused("about: the what is one", INDEX, () -> x.about(2, 6));
        CHECKS.refused("counted: no node and another what", INDEX, () -> x.counted(2, 2));
        CHECKS.refused("counted: no node -1 and what -1", INDEX, () -> x.counted(-1, -1));
        CHECKS.refused("counted: the node is there", ARGUMENT, () -> x.counted(1, 2));
        CHECKS.refused("counted: the what is one", INDEX, () -> x.counted(2, 1));
    }

    /** "A graph of one node without arcs" */
    private static void aNewGraphHasOneNodeWithoutArcs() {
        ClauseGraph x = new ClauseGraph();
        due("1 parts", x.parts(), 1);
        due("1 node 0", x.part(0), 0);
        CHECKS.refused("1 no node -1", INDEX, () -> x.part(-1));
        CHECKS.refused("1 no node 1", INDEX, () -> x.part(1));
        due("1 no arc", x.cut(0, 0), false);
        due("1 no walk", x.walk(0, 0), NONE);
        due("1 nothing is missing", x.missing(), 0);
        int[] want = {1, 0, 0, 0, 0, 0, 1};
        for (int what = 0; what <= 6; what++) {
            due("1 about " + what, x.about(0, what), want[what]);
        }
        due("1 the first arc", x.arc(0, 0), 1);
        due("1 another object has none", new ClauseGraph().walk(0, 0), NONE);
    }

    /** "The graph has n nodes" */
    private static void nodesThereAre() {
        for (int n = 1; n <= 160; n++) {
            ClauseGraph x = Make.graph(n);
            int last = n - 1;
            int next = n;
            due("2 parts of " + n, x.parts(), n);
            due("2 the last of " + n, x.part(last), last);
            CHECKS.refused("2 the next of " + n, INDEX, () -> x.part(next));
        }
    }

    /** "and no arcs" */
    private static void nodesTakeTheArcsAway() {
        for (int n : new int[] {2, 3, 4, 160}) {
            ClauseGraph x = Make.ring(3);
            due("2 one part before", x.parts(), 1);
            x.nodes(n);
            due("2 parts after nodes(" + n + ")", x.parts(), n);
            due("2 no reach after nodes(" + n + ")", x.reaches(0, 1), false);
            due("2 no walk after nodes(" + n + ")", x.walk(0, 1), NONE);
            due("2 nothing to cut after nodes(" + n + ")", x.cut(0, 1), false);
            due("2 the first arc after nodes(" + n + ")", x.arc(0, 1), 1);
        }
        ClauseGraph x = Make.ring(160);
        x.nodes(1);
        x.nodes(160);
        due("2 small, and large again: no arc comes back", x.cut(158, 159), false);
        due("2 nor any reach", x.counted(0, 0), 1);
        ClauseGraph dirty = Make.ring(3);
        dirty.cut(0, 1);
        dirty.nodes(3);
        due("2 after a cut nobody asked about", dirty.counted(1, 0), 1);
    }

    /** "(clauses stay, as arcs stay with variables)" */
    private static void clausesStayWithNodes() {
        ClauseGraph x = Make.clauses(2, 1, 1, -1, 2);
        x.nodes(1);
        due("2 the least number of nodes: clauses stay", x.fixed(2), 1);
        x.nodes(160);
        due("2 the greatest number of nodes: clauses stay", x.fixed(2), 1);
        due("2 and their number", x.clause(1, 2), 3);
        CHECKS.refused("2 and the number of variables", ARGUMENT, () -> x.value(3));
        x.arc(158, 159);
        x.variables(1);
        due("2 the least number of variables: arcs stay", x.walk(158, 159), 1);
        x.variables(80);
        due("2 the greatest number of variables: arcs stay", x.walk(158, 159), 1);
        due("2 and how many they are", x.arc(0, 1), 2);
    }

    /** "IllegalArgumentException: n is not 1 to 160." */
    private static void nodesAre1To160() {
        ClauseGraph x = new ClauseGraph();
        for (int n : new int[] {0, -1, -160, 161, 162, 320, LEAST, GREATEST}) {
            CHECKS.refused("2 nodes(" + n + ")", ARGUMENT, () -> x.nodes(n));
        }
        for (int n : new int[] {1, 2, 159, 160}) {
            x.nodes(n);
            due("2 nodes(" + n + ")", x.parts(), n);
        }
    }

    /** "An arc more (also from a node to itself)." */
    private static void anArcMoreAlsoToItself() {
        ClauseGraph x = Make.graph(3);
        due("3 to another", x.arc(1, 2), 1);
        due("3 to itself", x.arc(1, 1), 2);
        due("3 both are there", x.about(x.part(1), 2) + x.about(x.part(1), 3), 2);
    }

    /** "Answers how many there are" */
    private static void arcAnswersHowManyThereAre() {
        ClauseGraph x = Make.graph(20);
        for (int i = 0; i < 400; i++) {
            due("3 arc " + i, x.arc(i / 20, i % 20), i + 1);
        }
        for (int i = 0; i < 20; i++) {
            due("3 cut " + i, x.cut(i, i), true);
            due("3 another one in its place", x.arc(i, i), 400);
        }
        x.cut(0, 0);
        x.cut(19, 19);
        due("3 two less, one more", x.arc(0, 0), 399);
    }

    /** "NONE when it is there" */
    private static void arcAnswersNoneWhenItIsThere() {
        for (int n : SIZES) {
            ClauseGraph x = Make.graph(n);
            due("3 the first time, " + n, x.arc(0, n - 1), 1);
            due("3 the second time, " + n, x.arc(0, n - 1), NONE);
            due("3 the third time, " + n, x.arc(0, n - 1), NONE);
            x.cut(0, n - 1);
            due("3 when it is gone, " + n, x.arc(0, n - 1), 1);
        }
    }

    /** "or there are 1000" */
    private static void arcAnswersNoneWhenThereAreAThousand() {
        ClauseGraph x = manyArcs(999);
        due("3 there are 999", x.arc(150, 150), 1000);
        due("3 there are 1000", x.arc(151, 151), NONE);
        due("3 there are 1000, and it is one of them", x.arc(150, 150), NONE);
        CHECKS.refused("3 there are 1000, and there is no such node", INDEX, () -> x.arc(160, 0));
        due("3 one is gone", x.cut(150, 150), true);
        due("3 there are 999 again", x.arc(151, 151), 1000);
        x.nodes(160);
        due("3 there are none", x.arc(151, 151), 1);
    }

    /** "IndexOutOfBoundsException: there is no such node." (arc) */
    private static void arcNeedsItsNodes() {
        needsItsNodes("3 arc", (x, from, to) -> x.arc(from, to));
    }

    /** "An arc is gone." */
    private static void cutTakesJustThatArc() {
        ClauseGraph x = Make.graph(160);
        int[] ends = {0, 63, 64, 127, 128, 159};
        for (int from : ends) {
            for (int to : ends) {
                x.arc(from, to);
            }
        }
        for (int from : ends) {
            for (int to : ends) {
                x.cut(from, to);
                due("4 " + from + " to " + to + " is gone", x.walk(from, to) == 1, false);
                due("4 all others are there", x.arc(from, to), ends.length * ends.length);
            }
        }
        ClauseGraph last = Make.ring(3);
        last.cut(2, 0);
        due("4 the ring is open", last.parts(), 3);
        last.cut(0, 1);
        last.cut(1, 2);
        due("4 the last arc is gone", last.counted(0, 0), 1);
        due("4 there are none", last.arc(0, 1), 1);
    }

    /** "Answers whether it was there." */
    private static void cutAnswersWhetherItWasThere() {
        ClauseGraph x = Make.graph(3);
        due("4 no arc at all", x.cut(0, 1), false);
        x.arc(0, 1);
        due("4 the other direction", x.cut(1, 0), false);
        due("4 from the same node", x.cut(0, 2), false);
        due("4 to the same node", x.cut(2, 1), false);
        due("4 to itself", x.cut(0, 0), false);
        due("4 that one", x.cut(0, 1), true);
        due("4 a second time", x.cut(0, 1), false);
        x.arc(1, 1);
        due("4 one to itself", x.cut(1, 1), true);
        due("4 one to itself a second time", x.cut(1, 1), false);
    }

    /** "IndexOutOfBoundsException: there is no such node." (cut) */
    private static void cutNeedsItsNodes() {
        needsItsNodes("4 cut", (x, from, to) -> x.cut(from, to));
    }

    /** "How many parts there are." */
    private static void partsAre1AtLeastAndAllNodesAtMost() {
        for (int n : new int[] {2, 3, 64, 65, 159, 160}) {
            due("5 no arcs, " + n, Make.graph(n).parts(), n);
            due("5 a way, " + n, Make.way(n).parts(), n);
            ClauseGraph x = Make.ring(n);
            due("5 a ring, " + n, x.parts(), 1);
            x.cut(n - 1, 0);
            due("5 an open ring, " + n, x.parts(), n);
        }
        due("5 one node with an arc to itself", Make.graph(1, 0, 0).parts(), 1);
        due("5 all but one node", Make.graph(3, 0, 1, 1, 0).parts(), 2);
    }

    /** "The number of a node's part." */
    private static void partIsTheNumberOfANodesPart() {
        for (int n : SIZES) {
            ClauseGraph x = Make.ring(n);
            due("6 the first of a ring, " + n, x.part(0), 0);
            due("6 the last of a ring, " + n, x.part(n - 1), 0);
            x.cut(n - 1, 0);
            due("6 the first of a way, " + n, x.part(0), 0);
            due("6 the last of a way, " + n, x.part(n - 1), n - 1);
        }
    }

    /** "IndexOutOfBoundsException: there is no such node." (part) */
    private static void partNeedsItsNode() {
        needsItsNode("6 part", (x, node) -> x.part(node));
    }

    /** "how many nodes it has (what = 0)" */
    private static void aboutNodesOfAPart() {
        due("7 one", Make.graph(2).about(1, 0), 1);
        due("7 all", Make.ring(160).about(0, 0), 160);
        ClauseGraph x = Make.way(160);
        x.arc(159, 1);
        due("7 the first alone", x.about(0, 0), 1);
        due("7 all others", x.about(1, 0), 159);
    }

    /** "the least of them (1)" */
    private static void aboutTheLeastNode() {
        due("7 the least is 0", Make.ring(160).about(0, 1), 0);
        due("7 the least is the only one", Make.graph(160).about(159, 1), 159);
        ClauseGraph x = Make.graph(160, 159, 64, 64, 159, 159, 0);
        due("7 the least of two words", x.about(x.part(159), 1), 64);
        x.arc(64, 63);
        x.arc(63, 159);
        due("7 a lesser one comes to it", x.about(x.part(159), 1), 63);
    }

    /** "arcs between its nodes (2)" */
    private static void aboutArcsBetweenItsNodes() {
        due("7 no arc between", Make.graph(2, 0, 1).about(0, 2), 0);
        ClauseGraph x = Make.graph(3, 0, 1, 1, 0, 1, 2);
        due("7 two between, one out of it", x.about(0, 2), 2);
        x.arc(0, 0);
        x.arc(1, 1);
        due("7 all four between two nodes", x.about(0, 2), 4);
        x.arc(2, 0);
        due("7 the others are between now, too", x.about(0, 2), 6);
    }

    /** "arcs from them to other parts (3)" */
    private static void aboutArcsToOtherParts() {
        due("7 none to others", Make.ring(3).about(0, 3), 0);
        ClauseGraph x = Make.graph(4, 0, 1, 1, 0, 0, 2);
        due("7 one to another", x.about(0, 3), 1);
        x.arc(1, 2);
        x.arc(1, 3);
        due("7 each arc counts", x.about(0, 3), 3);
        due("7 those to it do not", x.about(1, 3), 0);
    }

    /** "to how many parts it goes (4)" */
    private static void aboutPartsToWhichItGoes() {
        ClauseGraph x = Make.graph(160, 0, 1, 1, 0);
        due("7 to no part", x.about(0, 4), 0);
        x.arc(0, 2);
        x.arc(1, 2);
        due("7 to one part by two arcs", x.about(0, 4), 1);
        x.arc(2, 3);
        due("7 not where only its goal goes", x.about(0, 4), 1);
        for (int node = 3; node < 160; node++) {
            x.arc(0, node);
        }
        due("7 to all others", x.about(0, 4), 158);
        x.arc(159, 158);
        x.arc(158, 159);
        due("7 two nodes of one part count once", x.about(0, 4), 157);
    }

    /** "to how many alone (5)" */
    private static void aboutPartsToWhichItGoesAlone() {
        ClauseGraph x = Make.graph(160);
        due("7 alone to none", x.about(0, 5), 0);
        for (int node = 1; node < 160; node++) {
            x.arc(0, node);
        }
        due("7 alone to all others", x.about(0, 5), 159);
        x.arc(1, 2);
        due("7 alone to all but one", x.about(0, 5), 158);
        for (int node = 2; node < 159; node++) {
            x.arc(node, node + 1);
        }
        due("7 alone to one", x.about(0, 5), 1);
    }

    /** "how many parts the longest chain has that begins with it (6 ..)" */
    private static void aboutTheLongestChain() {
        ClauseGraph x = Make.way(160);
        due("7 all parts", x.about(0, 6), 160);
        due("7 all but the first", x.about(1, 6), 159);
        due("7 the last two", x.about(158, 6), 2);
        x.arc(0, 159);
        due("7 a short one beside it", x.about(0, 6), 160);
        x.arc(159, 158);
        due("7 the last two are one", x.about(0, 6), 159);
        due("7 to a lesser node", Make.graph(2, 1, 0).about(0, 6), 2);
    }

    /** "1, if it goes nowhere" */
    private static void aboutAPartThatGoesNowhere() {
        due("7 one node", new ClauseGraph().about(0, 6), 1);
        due("7 a ring", Make.ring(160).about(0, 6), 1);
        ClauseGraph x = Make.graph(3, 0, 2, 1, 2);
        due("7 others go to it", x.about(2, 6), 1);
        due("7 it goes somewhere", x.about(1, 6), 2);
    }

    /** "an arc from a node to itself is one of 2" */
    private static void aboutAnArcToItself() {
        ClauseGraph x = Make.graph(2, 1, 1);
        int[] want = {1, 1, 1, 0, 0, 0, 1};
        for (int what = 0; what <= 6; what++) {
            due("7 to itself: about " + what, x.about(1, what), want[what]);
        }
        due("7 the other has none", x.about(0, 2), 0);
    }

    /** "IndexOutOfBoundsException: there is no such part." */
    private static void aboutNeedsItsPart() {
        for (int n : SIZES) {
            ClauseGraph x = Make.graph(n);
            for (int what = 0; what <= 6; what++) {
                int asked = what;
                x.about(0, what);
                x.about(n - 1, what);
                for (int none : new int[] {-1, n, LEAST, GREATEST}) {
                    CHECKS.refused("7 part " + none + " of " + n, INDEX, () -> x.about(none, asked));
                }
            }
        }
        ClauseGraph x = Make.ring(4);
        due("7 the only part", x.about(0, 0), 4);
        CHECKS.refused("7 a node is there, but no such part", INDEX, () -> x.about(1, 0));
        x.cut(3, 0);
        due("7 four parts now", x.about(3, 0), 1);
        CHECKS.refused("7 no fifth part", INDEX, () -> x.about(4, 0));
        x.arc(3, 2);
        due("7 three parts now", x.about(2, 0), 2);
        CHECKS.refused("7 no fourth part", INDEX, () -> x.about(3, 0));
    }

    /** "IllegalArgumentException: another what." (about) */
    private static void aboutNeedsItsWhat() {
        ClauseGraph x = Make.ring(3);
        due("7 what 0", x.about(0, 0), 3);
        due("7 what 6", x.about(0, 6), 1);
        for (int what : new int[] {-1, 7, 8, LEAST, GREATEST}) {
            CHECKS.refused("7 what " + what, ARGUMENT, () -> x.about(0, what));
        }
    }

    /** "Whether a node reaches another one." */
    private static void reachesWithAndWithoutTheLastArc() {
        for (int n : new int[] {2, 64, 65, 128, 129, 160}) {
            ClauseGraph x = Make.way(n);
            due("8 the whole way, " + n, x.reaches(0, n - 1), true);
            due("8 not back, " + n, x.reaches(n - 1, 0), false);
            x.cut(n - 2, n - 1);
            due("8 without its last arc, " + n, x.reaches(0, n - 1), false);
            due("8 up to there, " + n, x.reaches(0, n - 2), true);
            x.arc(n - 2, n - 1);
            due("8 with it again, " + n, x.reaches(0, n - 1), true);
            x.cut(0, 1);
            due("8 without its first arc, " + n, x.reaches(0, n - 1), false);
        }
    }

    /** "IndexOutOfBoundsException: there is no such node." (reaches) */
    private static void reachesNeedsItsNodes() {
        needsItsNodes("8 reaches", (x, from, to) -> x.reaches(from, to));
    }

    /** "How many arcs the shortest walk of at least one arc has from a node to another one" */
    private static void walkIsTheShortest() {
        ClauseGraph x = Make.way(160);
        due("9 one arc", x.walk(158, 159), 1);
        due("9 two arcs", x.walk(157, 159), 2);
        due("9 the longest", x.walk(0, 159), 159);
        x.arc(0, 158);
        due("9 two by a shorter way", x.walk(0, 159), 2);
        x.arc(0, 159);
        due("9 one by the shortest", x.walk(0, 159), 1);
        x.cut(0, 159);
        due("9 two again", x.walk(0, 159), 2);
    }

    /** "(or back to itself: never 0)" */
    private static void walkBackIsNever0() {
        for (int n : SIZES) {
            ClauseGraph x = Make.ring(n);
            due("9 round all " + n, x.walk(0, 0), n);
            due("9 round all " + n + " from the last", x.walk(n - 1, n - 1), n);
        }
        ClauseGraph x = Make.graph(2, 0, 1, 1, 0);
        due("9 there and back", x.walk(0, 0), 2);
        x.arc(0, 0);
        due("9 to itself", x.walk(0, 0), 1);
        due("9 the other one still goes there and back", x.walk(1, 1), 2);
    }

    /** "NONE when there is none." (walk) */
    private static void walkIsNoneWhenThereIsNone() {
        ClauseGraph x = Make.way(160);
        due("9 no way back", x.walk(159, 0), NONE);
        due("9 no way round", x.walk(159, 159), NONE);
        due("9 reaches itself, but has no walk", x.reaches(0, 0) && x.walk(0, 0) == NONE, true);
        x.arc(159, 0);
        due("9 a way back", x.walk(159, 0), 1);
        x.cut(80, 81);
        due("9 no way on", x.walk(0, 81), NONE);
        due("9 up to there", x.walk(81, 80), 159);
    }

    /** "IndexOutOfBoundsException: there is no such node." (walk) */
    private static void walkNeedsItsNodes() {
        needsItsNodes("9 walk", (x, from, to) -> x.walk(from, to));
    }

    /** "How many nodes a node reaches (itself, too) (what = 0)" */
    private static void countedAhead() {
        ClauseGraph x = Make.way(160);
        due("10 the last reaches itself", x.counted(159, 0), 1);
        due("10 the one before reaches two", x.counted(158, 0), 2);
        due("10 the first reaches all", x.counted(0, 0), 160);
        x.arc(159, 159);
        due("10 itself counts once", x.counted(159, 0), 1);
        x.arc(159, 0);
        due("10 then all", x.counted(159, 0), 160);
        due("10 one node", new ClauseGraph().counted(0, 0), 1);
    }

    /** "and how many reach it (1)" */
    private static void countedBehind() {
        ClauseGraph x = Make.way(160);
        due("10 the first is reached by itself", x.counted(0, 1), 1);
        due("10 the next by two", x.counted(1, 1), 2);
        due("10 the last by all", x.counted(159, 1), 160);
        x.arc(0, 0);
        due("10 by itself once", x.counted(0, 1), 1);
        x.arc(159, 0);
        due("10 then by all", x.counted(0, 1), 160);
        due("10 one node", new ClauseGraph().counted(0, 1), 1);
    }

    /** "IndexOutOfBoundsException: there is no such node." (counted) */
    private static void countedNeedsItsNode() {
        needsItsNode("10 counted 0", (x, node) -> x.counted(node, 0));
        needsItsNode("10 counted 1", (x, node) -> x.counted(node, 1));
    }

    /** "IllegalArgumentException: another what." (counted) */
    private static void countedNeedsItsWhat() {
        ClauseGraph x = Make.graph(3, 0, 1, 0, 2);
        due("10 what 0", x.counted(0, 0), 3);
        due("10 what 1", x.counted(0, 1), 1);
        for (int what : new int[] {-1, 2, 3, 6, LEAST, GREATEST}) {
            CHECKS.refused("10 what " + what, ARGUMENT, () -> x.counted(0, what));
        }
    }

    /** "The least number of arcs more with which all nodes would be one part" */
    private static void missingIsTheLeastNumber() {
        for (int n : new int[] {2, 3, 64, 65, 159, 160}) {
            due("11 no arcs, " + n, Make.graph(n).missing(), n);
            due("11 a way, " + n, Make.way(n).missing(), 1);
        }
        due("11 two firsts, one last", Make.graph(3, 0, 2, 1, 2).missing(), 2);
        due("11 one first, two lasts", Make.graph(3, 0, 1, 0, 2).missing(), 2);
        due("11 two and two in one piece", Make.graph(4, 0, 2, 0, 3, 1, 2, 1, 3).missing(), 2);
        due("11 a ring and a lone node", Make.graph(3, 0, 1, 1, 0).missing(), 2);
        due("11 a ring and a way out of it", Make.graph(3, 0, 1, 1, 0, 1, 2).missing(), 1);
        ClauseGraph star = Make.graph(160);
        for (int node = 1; node < 160; node++) {
            star.arc(0, node);
        }
        due("11 one to all", star.missing(), 159);
    }

    /** "(0, if they are)" */
    private static void missingIs0IfTheyAreOnePart() {
        due("11 one node", new ClauseGraph().missing(), 0);
        due("11 one node with an arc to itself", Make.graph(1, 0, 0).missing(), 0);
        for (int n : new int[] {2, 3, 64, 65, 159, 160}) {
            ClauseGraph x = Make.ring(n);
            due("11 a ring, " + n, x.missing(), 0);
            x.cut(0, 1);
            due("11 an open ring, " + n, x.missing(), 1);
            x.arc(0, 1);
            due("11 a ring again, " + n, x.missing(), 0);
        }
    }
}
