import java.util.ArrayList;
import java.util.List;

/**
 * "a call that throws, or answers NONE or false, changes nothing": such a call is made on one of two
 * objects that are else used alike, and all that both answer afterwards is compared. All of it stays
 * within the 512 calls of the document, but for the graph of 1000 arcs.
 */
public final class RefusedTest {
    private static final String INDEX = "throws.IndexOutOfBoundsException";
    private static final String ARGUMENT = "throws.IllegalArgumentException";
    private static final String STATE = "throws.IllegalStateException";
    private static final String NONE = "-1";
    private static final String FALSE = "false";
    private static final int[] FAR = {Integer.MIN_VALUE, -1000, 1000, Integer.MAX_VALUE};
    private static final Checks CHECKS = new Checks("RefusedTest");

    /** How an object came to be. */
    private interface State {
        ClauseGraph make();
    }

    /** What is done with an object after the refused call. */
    private interface Later {
        void go(Answers answers);
    }

    /** A call that is refused, with the answer that is due to it. */
    private record Refused(String name, Answers.Call call, String due) {
    }

    private static final int NODES = 4;
    private static final int VARIABLES = 3;

    public static void main(String[] args) {
        inANewObject();
        inOneThatIsGood();
        inOneWithNothingGood();
        withFourHundredClauses();
        withAThousandArcs();
        CHECKS.end();
    }

    private static void compare(String where, State state, Later later, List<Refused> all) {
        for (Refused refused : all) {
            ClauseGraph marked = state.make();
            ClauseGraph plain = state.make();
            String at = where + ": " + refused.name();
            CHECKS.due(at, Answers.of(marked, refused.call()), refused.due());
            CHECKS.due(at + ", again", Answers.of(marked, refused.call()), refused.due());
            Answers got = new Answers(marked);
            Answers want = new Answers(plain);
            later.go(got);
            later.go(want);
            CHECKS.due(at + ", then as many answers", got.size(), want.size());
            for (int i = 0; i < want.size(); i++) {
                CHECKS.due(at + ", then answer " + i, got.get(i), want.get(i));
            }
        }
    }

    private static void look(Answers answers) {
        answers.tellGraph(NODES).tellClauses(VARIABLES);
    }

    /** The answers of arc and clause tell how many there are, so they belong to what is compared. */
    private static void change(Answers answers) {
        answers.tell("arc(0, 0)", x -> x.arc(0, 0));
        answers.tell("clause(1, -1)", x -> x.clause(1, -1));
        answers.tell("cut(1, 2)", x -> x.cut(1, 2));
        answers.tell("drop(1)", x -> nothing(() -> x.drop(1)));
        answers.tell("arc(1, 0)", x -> x.arc(1, 0));
        answers.tell("clause(3, 2)", x -> x.clause(3, 2));
    }

    private static void lookAndChange(Answers answers) {
        look(answers);
        change(answers);
        look(answers);
    }

    private static void changeAndLook(Answers answers) {
        change(answers);
        look(answers);
        change(answers);
    }

    private static Object nothing(Checks.Deed deed) {
        deed.act();
        return null;
    }

    private static void compareBothWays(String where, State state, List<Refused> all) {
        compare(where + ", looked at", state, RefusedTest::lookAndChange, all);
        compare(where + ", changed", state, RefusedTest::changeAndLook, all);
    }

    /** Nodes, parts and clauses that are not there, in a state of so many. */
    private static List<Refused> wrongNumbers(int nodes, int parts, int clauses) {
        List<Refused> all = new ArrayList<>();
        for (int count : new int[] {0, -1, 161}) {
            all.add(new Refused("nodes(" + count + ")", x -> nothing(() -> x.nodes(count)), ARGUMENT));
        }
        for (int count : new int[] {0, -1, 81}) {
            all.add(new Refused("variables(" + count + ")", x -> nothing(() -> x.variables(count)), ARGUMENT));
        }
        for (int none : with(-1, nodes)) {
            addWrongNode(all, none);
        }
        for (int none : with(-1, parts)) {
            all.add(new Refused("about(" + none + ", 0)", x -> x.about(none, 0), INDEX));
            all.add(new Refused("about(" + none + ", 7)", x -> x.about(none, 7), INDEX));
        }
        for (int what : with(-1, 7)) {
            all.add(new Refused("about(0, " + what + ")", x -> x.about(0, what), ARGUMENT));
        }
        for (int what : with(-1, 2)) {
            all.add(new Refused("counted(0, " + what + ")", x -> x.counted(0, what), ARGUMENT));
        }
        for (int none : with(-1, clauses)) {
            all.add(new Refused("drop(" + none + ")", x -> nothing(() -> x.drop(none)), INDEX));
        }
        for (int none : FAR) {
            all.add(new Refused("nodes(" + none + ")", x -> nothing(() -> x.nodes(none)), ARGUMENT));
            all.add(new Refused("variables(" + none + ")", x -> nothing(() -> x.variables(none)), ARGUMENT));
        }
        return all;
    }

    private static int[] with(int one, int other) {
        return new int[] {one, other, FAR[0], FAR[1], FAR[2], FAR[3]};
    }

    private static void addWrongNode(List<Refused> all, int none) {
        all.add(new Refused("arc(" + none + ", 0)", x -> x.arc(none, 0), INDEX));
        all.add(new Refused("arc(0, " + none + ")", x -> x.arc(0, none), INDEX));
        all.add(new Refused("cut(" + none + ", 0)", x -> x.cut(none, 0), INDEX));
        all.add(new Refused("cut(0, " + none + ")", x -> x.cut(0, none), INDEX));
        all.add(new Refused("part(" + none + ")", x -> x.part(none), INDEX));
        all.add(new Refused("reaches(" + none + ", 0)", x -> x.reaches(none, 0), INDEX));
        all.add(new Refused("reaches(0, " + none + ")", x -> x.reaches(0, none), INDEX));
        all.add(new Refused("walk(" + none + ", 0)", x -> x.walk(none, 0), INDEX));
        all.add(new Refused("walk(0, " + none + ")", x -> x.walk(0, none), INDEX));
        all.add(new Refused("counted(" + none + ", 0)", x -> x.counted(none, 0), INDEX));
        all.add(new Refused("counted(" + none + ", 2)", x -> x.counted(none, 2), INDEX));
    }

    /** Literals and variables that are not there, in a state of n variables. */
    private static List<Refused> wrongLiterals(int n) {
        List<Refused> all = new ArrayList<>();
        for (int none : new int[] {0, n + 1, -n - 1, Integer.MIN_VALUE, Integer.MAX_VALUE}) {
            all.add(new Refused("clause(" + none + ", 1)", x -> x.clause(none, 1), ARGUMENT));
            all.add(new Refused("clause(1, " + none + ")", x -> x.clause(1, none), ARGUMENT));
            all.add(new Refused("value(" + none + ")", x -> x.value(none), ARGUMENT));
            all.add(new Refused("fixed(" + none + ")", x -> x.fixed(none), ARGUMENT));
            all.add(new Refused("implies(" + none + ", 1)", x -> x.implies(none, 1), ARGUMENT));
            all.add(new Refused("implies(1, " + none + ")", x -> x.implies(1, none), ARGUMENT));
        }
        return all;
    }

    /** What is answered where no walk and no lack of good assignments is found. */
    private static List<Refused> noneOfTheGood() {
        List<Refused> all = new ArrayList<>();
        all.add(new Refused("fails()", x -> x.fails(), NONE));
        all.add(new Refused("round()", x -> x.round(), NONE));
        all.add(new Refused("rounds()", x -> x.rounds(), NONE));
        all.add(new Refused("implies(1, -1)", x -> x.implies(1, -1), FALSE));
        return all;
    }

    private static void inANewObject() {
        List<Refused> all = wrongNumbers(1, 1, 0);
        all.addAll(wrongLiterals(1));
        all.addAll(noneOfTheGood());
        all.add(new Refused("cut(0, 0)", x -> x.cut(0, 0), FALSE));
        all.add(new Refused("walk(0, 0)", x -> x.walk(0, 0), NONE));
        compareBothWays("new", ClauseGraph::new, all);
    }

    /** Nodes 0 and 1 are a ring, 2 hangs on it, 3 goes to it. */
    private static ClauseGraph good() {
        ClauseGraph x = Make.graph(NODES, 0, 1, 1, 0, 1, 2, 2, 2, 3, 0);
        x.variables(VARIABLES);
        x.clause(-1, 2);
        x.clause(-2, 3);
        x.clause(3, 1);
        return x;
    }

    private static ClauseGraph asked(ClauseGraph x) {
        x.missing();
        x.round();
        return x;
    }

    /** The same as good, after more that was asked about and taken away again. */
    private static ClauseGraph takenBack() {
        ClauseGraph x = good();
        x.arc(2, 3);
        x.clause(-3, -3);
        asked(x);
        x.cut(2, 3);
        x.drop(3);
        return x;
    }

    private static void inOneThatIsGood() {
        List<Refused> all = wrongNumbers(NODES, 3, 3);
        all.addAll(wrongLiterals(VARIABLES));
        all.addAll(noneOfTheGood());
        all.add(new Refused("arc(0, 1), which is there", x -> x.arc(0, 1), NONE));
        all.add(new Refused("arc(2, 2), which is there", x -> x.arc(2, 2), NONE));
        all.add(new Refused("cut(2, 1), which is not there", x -> x.cut(2, 1), FALSE));
        all.add(new Refused("cut(3, 3), which is not there", x -> x.cut(3, 3), FALSE));
        all.add(new Refused("reaches(2, 0)", x -> x.reaches(2, 0), FALSE));
        all.add(new Refused("walk(2, 0)", x -> x.walk(2, 0), NONE));
        all.add(new Refused("walk(3, 3)", x -> x.walk(3, 3), NONE));
        compareBothWays("good", RefusedTest::good, all);
        compareBothWays("good and asked", () -> asked(good()), all);
        compareBothWays("good and taken back", RefusedTest::takenBack, all);
    }

    /** One part, and clauses of which the last but one leaves nothing good. */
    private static ClauseGraph nothingGood() {
        ClauseGraph x = Make.ring(NODES);
        x.variables(VARIABLES);
        x.clause(-1, 2);
        x.clause(1, 1);
        x.clause(-2, -1);
        x.clause(3, 3);
        return x;
    }

    private static void inOneWithNothingGood() {
        List<Refused> all = wrongNumbers(NODES, 1, 4);
        all.addAll(wrongLiterals(VARIABLES));
        all.add(new Refused("can()", x -> x.can(), FALSE));
        all.add(new Refused("value(1)", x -> x.value(1), STATE));
        all.add(new Refused("fixed(3)", x -> x.fixed(3), STATE));
        all.add(new Refused("implies(1, 1)", x -> x.implies(1, 1), STATE));
        all.add(new Refused("classes()", x -> x.classes(), STATE));
        compareBothWays("nothing good", RefusedTest::nothingGood, all);
        compareBothWays("nothing good and asked", () -> asked(nothingGood()), all);
    }

    private static void withFourHundredClauses() {
        List<Refused> all = wrongLiterals(2);
        all.add(new Refused("clause(-1, -1), one too many", x -> x.clause(-1, -1), NONE));
        all.add(new Refused("clause(1, 2), one too many", x -> x.clause(1, 2), NONE));
        for (int none : with(-1, 400)) {
            all.add(new Refused("drop(" + none + ")", x -> nothing(() -> x.drop(none)), INDEX));
        }
        State full = () -> Make.sameClause(2, 400, 1, 2);
        compare("400 clauses, looked at", full, answers -> answers.tellClauses(2), all);
        compare("400 clauses, changed", full, RefusedTest::changeClauses, all);
    }

    private static void changeClauses(Answers answers) {
        answers.tell("clause(2, 2)", x -> x.clause(2, 2));
        answers.tell("drop(399)", x -> nothing(() -> x.drop(399)));
        answers.tell("clause(-2, -2)", x -> x.clause(-2, -2));
        answers.tell("clause(-2, -2)", x -> x.clause(-2, -2));
        answers.tellClauses(2);
        answers.tell("drop(0)", x -> nothing(() -> x.drop(0)));
        answers.tell("drop(399)", x -> nothing(() -> x.drop(399)));
        answers.tellClauses(2);
    }

    private static ClauseGraph thousandArcs() {
        ClauseGraph x = Make.graph(160);
        for (int i = 0; i < 1000; i++) {
            x.arc(i % 160, i / 160);
        }
        return x;
    }

    private static void withAThousandArcs() {
        List<Refused> all = new ArrayList<>();
        all.add(new Refused("arc(0, 159), one too many", x -> x.arc(0, 159), NONE));
        all.add(new Refused("arc(0, 0), which is there", x -> x.arc(0, 0), NONE));
        all.add(new Refused("arc(160, 0)", x -> x.arc(160, 0), INDEX));
        all.add(new Refused("cut(0, 159), which is not there", x -> x.cut(0, 159), FALSE));
        compare("1000 arcs, looked at", RefusedTest::thousandArcs, answers -> answers.tellGraph(8), all);
        compare("1000 arcs, changed", RefusedTest::thousandArcs, RefusedTest::changeArcs, all);
    }

    private static void changeArcs(Answers answers) {
        answers.tell("cut(0, 159)", x -> x.cut(0, 159));
        answers.tell("cut(1, 1)", x -> x.cut(1, 1));
        answers.tell("arc(159, 159)", x -> x.arc(159, 159));
        answers.tell("walk(0, 159)", x -> x.walk(0, 159));
        answers.tellGraph(8);
    }
}
