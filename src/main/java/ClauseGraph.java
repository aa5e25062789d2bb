import java.util.Arrays;

/**
 * A desk for graphs whose arcs go one way, and for clauses of two literals. Both are held as points
 * that lead to points: the nodes of the graph, and the literals of the clauses with their steps.
 */
public final class ClauseGraph {
    public static final int NONE = -1;

    private static final int MOST_NODES = 160;
    private static final int MOST_ARCS = 1000;
    private static final int MOST_VARIABLES = 80;
    private static final int MOST_CLAUSES = 400;

    /** Enough for the nodes, and for two literals of each variable. */
    private static final int POINTS = 160;

    private final Parts numbering;
    private final Net net;
    private final ClauseRow row;

    public ClauseGraph() {
        numbering = new Parts();
        net = numbering.net;
        row = new ClauseRow();
    }

    public void nodes(int n) throws IllegalArgumentException {
        if (n < 1 || n > MOST_NODES) {
            throw new IllegalArgumentException("nodes are 1 to 160");
        }
        net.begin(n);
    }

    public int arc(int from, int to) throws IndexOutOfBoundsException {
        needNode(from);
        needNode(to);
        return net.add(from, to);
    }

    public boolean cut(int from, int to) throws IndexOutOfBoundsException {
        needNode(from);
        needNode(to);
        return net.remove(from, to);
    }

    public int parts() {
        return numbering.renewed().many;
    }

    public int part(int node) throws IndexOutOfBoundsException {
        needNode(node);
        return numbering.renewed().numberOf[node];
    }

    public int about(int part, int what) throws IndexOutOfBoundsException, IllegalArgumentException {
        Parts all = numbering.renewed();
        if (part < 0 || part >= all.many) {
            throw new IndexOutOfBoundsException("there is no such part");
        }
        switch (what) {
            case 0:
                return all.sizeOf(part);
            case 1:
                return all.least[part];
            case 2:
                return all.arcsInside(part);
            case 3:
                return all.arcsOutward(part);
            case 4:
                return all.goals(part);
            case 5:
                return all.goalsAlone(part);
            case 6:
                return all.longestChain(part);
            default:
                throw new IllegalArgumentException("what is 0 to 6");
        }
    }

    public boolean reaches(int from, int to) throws IndexOutOfBoundsException {
        needNode(from);
        needNode(to);
        return net.settled().leads(from, to);
    }

    public int walk(int from, int to) throws IndexOutOfBoundsException {
        needNode(from);
        needNode(to);
        return net.shortest(from, to);
    }

    public int counted(int node, int what) throws IndexOutOfBoundsException, IllegalArgumentException {
        needNode(node);
        if (what != 0 && what != 1) {
            throw new IllegalArgumentException("what is 0 or 1");
        }
        Reach reach = net.settled();
        return what == 0 ? reach.countAhead(node) : reach.countBehind(node);
    }

    public int missing() {
        return numbering.renewed().arcsToOnePart();
    }

    public void variables(int n) throws IllegalArgumentException {
        if (n < 1 || n > MOST_VARIABLES) {
            throw new IllegalArgumentException("variables are 1 to 80");
        }
        row.begin(n);
    }

    public int clause(int a, int b) throws IllegalArgumentException {
        needLiteral(a);
        needLiteral(b);
        return row.add(pointOf(a), pointOf(b));
    }

    public void drop(int clause) throws IndexOutOfBoundsException {
        if (clause < 0 || clause >= row.many) {
            throw new IndexOutOfBoundsException("there is no such clause");
        }
        row.remove(clause);
    }

    public boolean can() {
        return row.failing() == NONE;
    }

    public int value(int variable) throws IllegalArgumentException, IllegalStateException {
        needVariable(variable);
        needGood();
        return row.leastValue(variable);
    }

    public int fixed(int variable) throws IllegalArgumentException, IllegalStateException {
        needVariable(variable);
        needGood();
        int yes = pointOf(variable);
        if (row.isTrueAlways(yes)) {
            return 1;
        }
        return row.isTrueAlways(opposite(yes)) ? 0 : 2;
    }

    public boolean implies(int a, int b) throws IllegalArgumentException, IllegalStateException {
        needLiteral(a);
        needLiteral(b);
        needGood();
        return row.follows(pointOf(a), pointOf(b));
    }

    public int fails() {
        return row.failing();
    }

    public int round() {
        row.findRound();
        return row.shortestRound;
    }

    public int rounds() {
        row.findRound();
        return row.leastRoundVariable;
    }

    public int classes() throws IllegalStateException {
        needGood();
        return row.countClasses();
    }

    private void needNode(int node) {
        if (node < 0 || node >= net.size) {
            throw new IndexOutOfBoundsException("there is no such node");
        }
    }

    private void needVariable(int variable) {
        if (variable < 1 || variable > row.variables) {
            throw new IllegalArgumentException("there is no such variable");
        }
    }

    private void needLiteral(int literal) {
        if (literal == 0 || literal < -row.variables || literal > row.variables) {
            throw new IllegalArgumentException("this is no literal");
        }
    }

    private void needGood() {
        if (row.failing() != NONE) {
            throw new IllegalStateException("there is no good assignment");
        }
    }

    /** A variable and its opposite stand side by side, so that one bit tells them apart. */
    private static int pointOf(int literal) {
        return literal > 0 ? 2 * literal - 2 : -2 * literal - 1;
    }

    private static int opposite(int point) {
        return point ^ 1;
    }

    /** Rows of bits, one bit for each point. */
    private static final class Table {
        private static final int WORDS = 3;
        private static final int WORD_BITS = 64;

        private final long[] bits;

        Table(int rows) {
            bits = new long[rows * WORDS];
        }

        void wipe() {
            Arrays.fill(bits, 0L);
        }

        boolean has(int row, int point) {
            return (bits[row * WORDS + point / WORD_BITS] & bitOf(point)) != 0L;
        }

        void put(int row, int point) {
            bits[row * WORDS + point / WORD_BITS] |= bitOf(point);
        }

        void take(int row, int point) {
            bits[row * WORDS + point / WORD_BITS] &= ~bitOf(point);
        }

        /** Puts all points of another row into a row, too. */
        void join(int row, Table other, int otherRow) {
            for (int word = 0; word < WORDS; word++) {
                bits[row * WORDS + word] |= other.bits[otherRow * WORDS + word];
            }
        }

        int count(int row) {
            return countShared(row, this, row);
        }

        int countShared(int row, Table other, int otherRow) {
            int many = 0;
            for (int word = 0; word < WORDS; word++) {
                many += Long.bitCount(bits[row * WORDS + word] & other.bits[otherRow * WORDS + word]);
            }
            return many;
        }

        int leastShared(int row, Table other, int otherRow) {
            for (int word = 0; word < WORDS; word++) {
                long both = bits[row * WORDS + word] & other.bits[otherRow * WORDS + word];
                if (both != 0L) {
                    return word * WORD_BITS + lowestOf(both);
                }
            }
            return NONE;
        }

        /** Writes the points of a row behind an end, the least first, and answers the new end. */
        int list(int row, int[] into, int end) {
            int newEnd = end;
            for (int word = 0; word < WORDS; word++) {
                long left = bits[row * WORDS + word];
                for (int still = Long.bitCount(left); still > 0 && newEnd < into.length; still--) {
                    into[newEnd] = word * WORD_BITS + lowestOf(left);
                    newEnd++;
                    left &= left - 1L;
                }
            }
            return newEnd;
        }

        /** Row 0 becomes what another row has and the row 0 of seen has not; then seen has it, too. */
        void takeUnseen(Table other, int otherRow, Table seen) {
            for (int word = 0; word < WORDS; word++) {
                bits[word] = other.bits[otherRow * WORDS + word] & ~seen.bits[word];
                seen.bits[word] |= bits[word];
            }
        }

        private static int lowestOf(long word) {
            return Long.bitCount((word & -word) - 1L);
        }

        private static long bitOf(int point) {
            return 1L << (point % WORD_BITS);
        }
    }

    /** Which points reach which, themselves always; a knot are points that reach one another. */
    private static final class Reach {
        private final Table ahead = new Table(POINTS);
        private final Table behind = new Table(POINTS);
        private final int[] some = new int[POINTS];

        void begin(int points) {
            ahead.wipe();
            behind.wipe();
            for (int point = 0; point < points; point++) {
                ahead.put(point, point);
                behind.put(point, point);
            }
        }

        /** Takes in that one point leads to another. */
        void lead(int from, int to) {
            if (ahead.has(from, to)) {
                return;
            }
            int many = behind.list(from, some, 0);
            for (int i = 0; i < many; i++) {
                ahead.join(some[i], ahead, to);
            }
            many = ahead.list(to, some, 0);
            for (int i = 0; i < many; i++) {
                behind.join(some[i], behind, from);
            }
        }

        boolean leads(int from, int to) {
            return ahead.has(from, to);
        }

        boolean inOneKnot(int one, int other) {
            return ahead.has(one, other) && behind.has(one, other);
        }

        int countAhead(int point) {
            return ahead.count(point);
        }

        int countBehind(int point) {
            return behind.count(point);
        }

        int knotSize(int point) {
            return ahead.countShared(point, behind, point);
        }

        int leastOfKnot(int point) {
            return ahead.leastShared(point, behind, point);
        }

        int listAhead(int point, int[] into) {
            return ahead.list(point, into, 0);
        }

        /** How many of the points in the set's only row reach a point. */
        int countBehindIn(int point, Table set) {
            return behind.countShared(point, set, 0);
        }

        void joinAhead(int point, Table set) {
            set.join(0, ahead, point);
        }
    }

    /** Finds how long shortest walks are. */
    private static final class Walker {
        private final int[] queue = new int[POINTS];
        private final int[] far = new int[POINTS];
        private final Table seen = new Table(1);
        private final Table fresh = new Table(1);

        /** The goal is looked for among what a point leads to, so that a walk to itself is never 0. */
        int shortest(Table arcs, int from, int to) {
            seen.wipe();
            seen.put(0, from);
            queue[0] = from;
            far[0] = 0;
            int end = 1;
            for (int at = 0; at < end && at < POINTS; at++) {
                if (arcs.has(queue[at], to)) {
                    return far[at] + 1;
                }
                fresh.takeUnseen(arcs, queue[at], seen);
                int newEnd = fresh.list(0, queue, end);
                for (int place = end; place < newEnd; place++) {
                    far[place] = far[at] + 1;
                }
                end = newEnd;
            }
            return NONE;
        }
    }

    /** The graph. */
    private static final class Net {
        private final Walker walker = new Walker();
        private final int[] goals = new int[POINTS];
        private int arcCount;
        private boolean reachKnown;
        final Table arcs = new Table(POINTS);
        final Reach reach = new Reach();
        int size;
        int changes;

        Net() {
            begin(1);
        }

        void begin(int n) {
            size = n;
            arcs.wipe();
            arcCount = 0;
            reach.begin(n);
            reachKnown = true;
            changes++;
        }

        int add(int from, int to) {
            if (arcs.has(from, to) || arcCount >= MOST_ARCS) {
                return NONE;
            }
            arcs.put(from, to);
            arcCount++;
            if (reachKnown) {
                reach.lead(from, to);
            }
            changes++;
            return arcCount;
        }

        boolean remove(int from, int to) {
            if (!arcs.has(from, to)) {
                return false;
            }
            arcs.take(from, to);
            arcCount--;
            reachKnown = false;
            changes++;
            return true;
        }

        /** An arc more was taken in at once, but after one less the reach has to start anew. */
        Reach settled() {
            if (!reachKnown) {
                reach.begin(size);
                for (int node = 0; node < size; node++) {
                    leadFrom(node);
                }
                reachKnown = true;
            }
            return reach;
        }

        private void leadFrom(int node) {
            int ends = arcs.list(node, goals, 0);
            for (int i = 0; i < ends; i++) {
                reach.lead(node, goals[i]);
            }
        }

        int shortest(int from, int to) {
            return walker.shortest(arcs, from, to);
        }
    }

    /** The parts of the graph by their numbers. */
    private static final class Parts {
        private final int[] waiting = new int[POINTS];
        private final int[] chain = new int[POINTS];
        private final int[] some = new int[POINTS];
        private final Table goalSet = new Table(1);
        private int changesSeen;
        final Net net = new Net();
        final int[] numberOf = new int[POINTS];
        final int[] least = new int[POINTS];
        int many;

        /** Gives the numbers anew if the graph has changed. */
        Parts renewed() {
            if (changesSeen != net.changes) {
                waitForOthers(net.settled());
                giveNumbers();
                changesSeen = net.changes;
            }
            return this;
        }

        /** A node waits for as many nodes as reach it from parts without number, but its own. */
        private void waitForOthers(Reach reach) {
            for (int node = 0; node < net.size; node++) {
                numberOf[node] = NONE;
                waiting[node] = reach.countBehind(node) - reach.knotSize(node);
            }
        }

        private void giveNumbers() {
            many = 0;
            for (int turn = 0; turn < net.size; turn++) {
                int next = leastReady();
                if (next == NONE) {
                    break;
                }
                giveNumber(next);
            }
        }

        /**
         * The least node that waits for none of another part is also the least one of its part, since
         * all nodes of a part wait for the same ones.
         */
        private int leastReady() {
            for (int node = 0; node < net.size; node++) {
                if (numberOf[node] == NONE && waiting[node] == 0) {
                    return node;
                }
            }
            return NONE;
        }

        private void giveNumber(int leastNode) {
            int size = net.reach.knotSize(leastNode);
            int reached = net.reach.listAhead(leastNode, some);
            for (int i = 0; i < reached; i++) {
                if (net.reach.inOneKnot(leastNode, some[i])) {
                    numberOf[some[i]] = many;
                } else {
                    waiting[some[i]] -= size;
                }
            }
            least[many] = leastNode;
            many++;
        }

        int sizeOf(int part) {
            return net.reach.knotSize(least[part]);
        }

        int arcsInside(int part) {
            return countArcs(part, true);
        }

        int arcsOutward(int part) {
            return countArcs(part, false);
        }

        private int countArcs(int part, boolean inside) {
            int found = 0;
            for (int node = 0; node < net.size; node++) {
                int ends = numberOf[node] == part ? net.arcs.list(node, some, 0) : 0;
                for (int i = 0; i < ends; i++) {
                    if (inside == (numberOf[some[i]] == part)) {
                        found++;
                    }
                }
            }
            return found;
        }

        int goals(int part) {
            findGoals(part);
            return goalSet.count(0);
        }

        /** A part goes alone to a goal that no goal but itself reaches. */
        int goalsAlone(int part) {
            findGoals(part);
            int alone = 0;
            int ends = goalSet.list(0, some, 0);
            for (int i = 0; i < ends; i++) {
                if (net.reach.countBehindIn(some[i], goalSet) == 1) {
                    alone++;
                }
            }
            return alone;
        }

        /** Each part to which a part goes stands in the set with its least node. */
        private void findGoals(int part) {
            goalSet.wipe();
            for (int node = 0; node < net.size; node++) {
                int ends = numberOf[node] == part ? net.arcs.list(node, some, 0) : 0;
                for (int i = 0; i < ends; i++) {
                    int goal = numberOf[some[i]];
                    if (goal != part) {
                        goalSet.put(0, least[goal]);
                    }
                }
            }
        }

        /**
         * A part goes only to parts of greater numbers, so theirs are known first. To look at all that
         * it reaches, not just at its goals, finds no longer chain: the way there goes through parts, too.
         */
        int longestChain(int part) {
            for (int at = many - 1; at >= part; at--) {
                chain[at] = 1;
                int reached = net.reach.listAhead(least[at], some);
                for (int i = 0; i < reached; i++) {
                    int later = numberOf[some[i]];
                    if (later > at) {
                        chain[at] = Math.max(chain[at], 1 + chain[later]);
                    }
                }
            }
            return chain[part];
        }

        /**
         * Each part that nothing leads to needs an arc to it, each that leads nowhere one from it; as
         * many as the more of them are always enough.
         */
        int arcsToOnePart() {
            if (many == 1) {
                return 0;
            }
            int firsts = 0;
            int lasts = 0;
            for (int part = 0; part < many; part++) {
                int size = sizeOf(part);
                if (net.reach.countBehind(least[part]) == size) {
                    firsts++;
                }
                if (net.reach.countAhead(least[part]) == size) {
                    lasts++;
                }
            }
            return Math.max(firsts, lasts);
        }
    }

    /** The clauses in their row, and what their steps tell. Literals are points here. */
    private static final class ClauseRow {
        private final int[] first = new int[MOST_CLAUSES];
        private final int[] second = new int[MOST_CLAUSES];
        private final Table steps = new Table(POINTS);
        private final Reach reach = new Reach();
        private final Walker walker = new Walker();
        private final Table held = new Table(1);
        private int taken;
        private int failsAt;
        private boolean roundKnown;
        int shortestRound;
        int leastRoundVariable;
        int variables;
        int many;

        ClauseRow() {
            begin(1);
        }

        void begin(int n) {
            variables = n;
            many = 0;
            forgetSteps();
        }

        int add(int a, int b) {
            if (many >= MOST_CLAUSES) {
                return NONE;
            }
            first[many] = a;
            second[many] = b;
            many++;
            roundKnown = false;
            return many;
        }

        /** Another clause may have a step of the one that goes, so all are taken in anew. */
        void remove(int place) {
            many--;
            System.arraycopy(first, place + 1, first, place, many - place);
            System.arraycopy(second, place + 1, second, place, many - place);
            forgetSteps();
        }

        private void forgetSteps() {
            steps.wipe();
            reach.begin(2 * variables);
            taken = 0;
            failsAt = NONE;
            roundKnown = false;
        }

        /** With how many clauses there is no good assignment; NONE if there is one with all. */
        int failing() {
            for (int place = taken; place < many; place++) {
                takeIn(place);
            }
            taken = many;
            return failsAt;
        }

        /**
         * A knot that holds a literal and its opposite holds the opposites of all its literals. If this
         * clause makes the first such knot, a step of it is in there, and so are a and its opposite.
         */
        private void takeIn(int place) {
            int a = first[place];
            int b = second[place];
            steps.put(opposite(a), b);
            steps.put(opposite(b), a);
            if (failsAt != NONE) {
                return;
            }
            reach.lead(opposite(a), b);
            reach.lead(opposite(b), a);
            if (reach.inOneKnot(a, opposite(a))) {
                failsAt = place + 1;
            }
        }

        boolean isTrueAlways(int literal) {
            return reach.leads(opposite(literal), literal);
        }

        boolean follows(int a, int b) {
            return reach.leads(a, b) || isTrueAlways(opposite(a)) || isTrueAlways(b);
        }

        /**
         * What is held takes all that follows with it; so a literal that is not decided yet can be held
         * unless it leads to its own opposite.
         */
        int leastValue(int variable) {
            held.wipe();
            for (int at = 1; at <= variable; at++) {
                int yes = pointOf(at);
                int no = opposite(yes);
                if (!held.has(0, yes) && !held.has(0, no)) {
                    reach.joinAhead(isTrueAlways(yes) ? yes : no, held);
                }
            }
            return held.has(0, pointOf(variable)) ? 1 : 0;
        }

        /** The literals that are true always are one class, their opposites another one. */
        int countClasses() {
            int found = 0;
            boolean someFixed = false;
            for (int literal = 0; literal < 2 * variables; literal++) {
                if (isTrueAlways(literal) || isTrueAlways(opposite(literal))) {
                    someFixed = true;
                } else if (reach.leastOfKnot(literal) == literal) {
                    found++;
                }
            }
            return someFixed ? found + 2 : found;
        }

        /** There is a walk round just when there is no good assignment. */
        void findRound() {
            if (roundKnown) {
                return;
            }
            shortestRound = NONE;
            leastRoundVariable = NONE;
            int last = failing() == NONE ? 0 : variables;
            for (int variable = 1; variable <= last; variable++) {
                int length = roundOf(variable);
                if (length != NONE && (shortestRound == NONE || length < shortestRound)) {
                    shortestRound = length;
                    leastRoundVariable = variable;
                }
            }
            roundKnown = true;
        }

        private int roundOf(int variable) {
            int yes = pointOf(variable);
            int there = walker.shortest(steps, yes, opposite(yes));
            if (there == NONE) {
                return NONE;
            }
            int back = walker.shortest(steps, opposite(yes), yes);
            return back == NONE ? NONE : there + back;
        }
    }
}
