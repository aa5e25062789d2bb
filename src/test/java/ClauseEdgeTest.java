/**
 * The sentences of the document about the clauses that name a boundary case. Each has a test of its own,
 * with the sentence above it: the value at the boundary, just inside it, and just outside it.
 */
public final class ClauseEdgeTest {
    private static final Class<IndexOutOfBoundsException> INDEX = IndexOutOfBoundsException.class;
    private static final Class<IllegalArgumentException> ARGUMENT = IllegalArgumentException.class;
    private static final Class<IllegalStateException> STATE = IllegalStateException.class;
    private static final int NONE = ClauseGraph.NONE;
    private static final int LEAST = Integer.MIN_VALUE;
    private static final int GREATEST = Integer.MAX_VALUE;
    private static final int[] SIZES = {1, 2, 32, 33, 64, 65, 79, 80};
    private static final Checks CHECKS = new Checks("ClauseEdgeTest");

    /** A method that takes a variable or a literal. */
    private interface OnNumber {
        void call(ClauseGraph x, int number);
    }

    public static void main(String[] args) {
        theLastOfThe512Calls();
        terms();
        promises1And12To14();
        promises15To18();
        promises19To22();
        CHECKS.end();
    }

    private static void terms() {
        fourHundredClausesAtMost();
        clausesAreNumberedFrom0();
        variablesGoUpTo80();
        zeroIsNoLiteral();
        aLiteralIsAVariableOrItsOpposite();
        twoLiteralsPerhapsTheSame();
        holdsIfOneIsTrue();
        anAssignmentGivesEachVariable0Or1();
        goodIfAllClausesHold();
        lessAtTheFirstVariableWhereTheyDiffer();
        theStepsOfAClause();
        theOneNamedFirst();
    }

    private static void promises1And12To14() {
        aNewObjectHasOneVariableAndNoClauses();
        variablesThereAre();
        variablesTakeTheClausesAway();
        variablesAre1To80();
        clauseAnswersHowManyThereAre();
        clauseAnswersNoneWhenThereAre400();
        clauseNeedsLiterals();
        dropTakesThatClause();
        thoseBehindComeForward();
        dropNeedsItsClause();
    }

    private static void promises15To18() {
        canWithAndWithoutTheLastClause();
        valueInTheLeastGoodAssignment();
        valueNeedsItsVariable();
        valueNeedsAGoodAssignment();
        fixedInAllGoodAssignments();
        fixedIs2WhenItHasBoth();
        fixedNeedsItsVariable();
        fixedNeedsAGoodAssignment();
        impliesInAllGoodAssignments();
        impliesIfAIsInNone();
        impliesNeedsLiterals();
        impliesNeedsAGoodAssignment();
    }

    private static void promises19To22() {
        failsIsTheLeastNumber();
        failsIsNoneWhenThereIsOne();
        roundIsTheShortest();
        theSameStepMayComeTwice();
        roundIsNoneWhenThereIsNone();
        roundsIsTheLeastVariable();
        roundsIsNoneWhenThereIsNone();
        classesOfAllLiterals();
        classesOfVariablesInNoClause();
        classesOfWhatIsTrueInAllOrNone();
        classesNeedAGoodAssignment();
    }

    private static void due(String what, long got, long want) {
        CHECKS.due(what, got, want);
    }

    private static void due(String what, boolean got, boolean want) {
        CHECKS.due(what, got, want);
    }

    private static void dueValues(String what, ClauseGraph x, int... want) {
        for (int i = 0; i < want.length; i++) {
            due(what + ": value " + (i + 1), x.value(i + 1), want[i]);
        }
    }

    private static void dueFixed(String what, ClauseGraph x, int... want) {
        for (int i = 0; i < want.length; i++) {
            due(what + ": fixed " + (i + 1), x.fixed(i + 1), want[i]);
        }
    }

    /** "IllegalArgumentException: there is no such variable.", for a method that takes one. */
    private static void needsItsVariable(String name, OnNumber method) {
        for (int n : SIZES) {
            ClauseGraph x = Make.clauses(n);
            method.call(x, 1);
            method.call(x, n);
            for (int none : new int[] {0, -1, -n, n + 1, n + 2, LEAST, GREATEST}) {
                CHECKS.refused(name + " " + none + " of " + n, ARGUMENT, () -> method.call(x, none));
            }
        }
        ClauseGraph x = Make.clauses(80);
        method.call(x, 80);
        x.variables(3);
        method.call(x, 3);
        CHECKS.refused(name + " 4 is gone", ARGUMENT, () -> method.call(x, 4));
        CHECKS.refused(name + " 80 is gone", ARGUMENT, () -> method.call(x, 80));
        x.variables(4);
        method.call(x, 4);
    }

    /** "IllegalArgumentException: a or b is no literal.", for a method that takes one. */
    private static void needsALiteral(String name, OnNumber method) {
        for (int n : SIZES) {
            ClauseGraph x = Make.clauses(n);
            for (int one : new int[] {1, -1, n, -n}) {
                method.call(x, one);
            }
            for (int none : new int[] {0, n + 1, -n - 1, n + 2, -n - 2, LEAST, -GREATEST, GREATEST}) {
                CHECKS.refused(name + " " + none + " of " + n, ARGUMENT, () -> method.call(x, none));
            }
        }
        ClauseGraph x = Make.clauses(80);
        method.call(x, -80);
        x.variables(3);
        method.call(x, -3);
        CHECKS.refused(name + " 4 is gone", ARGUMENT, () -> method.call(x, 4));
        CHECKS.refused(name + " -4 is gone", ARGUMENT, () -> method.call(x, -4));
        x.variables(4);
        method.call(x, -4);
    }

    /** A run of clauses that leaves nothing good, and one clause less that does. */
    private static ClauseGraph nothingGood() {
        return Make.clauses(3, 1, 2, 1, -2, -1, 3, -1, -3);
    }

    /** "An object is used for at most 512 calls after it has been made" */
    private static void theLastOfThe512Calls() {
        ClauseGraph x = Make.sameClause(2, 399, 1, 2);
        due("call 401", x.clause(-1, -1), 400);
        for (int calls = 402; calls < 511; calls++) {
            x.drop(0);
        }
        due("call 511", x.clause(-2, -2), 292);
        due("call 512", x.fails(), 292);
    }

    /** "THE CLAUSES, 400 at most" */
    private static void fourHundredClausesAtMost() {
        ClauseGraph x = Make.sameClause(2, 398, 1, 2);
        due("terms: clause 399", x.clause(1, 2), 399);
        due("terms: clause 400", x.clause(-2, -2), 400);
        due("terms: clause 401", x.clause(-1, -1), NONE);
        due("terms: the last one counts, the one too many does not", x.fixed(1), 1);
    }

    /** "numbered from 0 on in a row" */
    private static void clausesAreNumberedFrom0() {
        ClauseGraph x = Make.clauses(3, 1, 1, 2, 2, 3, 3);
        x.drop(2);
        dueFixed("terms: number 2 was the third", x, 1, 1, 2);
        x.drop(0);
        dueFixed("terms: number 0 was the first", x, 2, 1, 2);
        CHECKS.refused("terms: number 1 is none now", INDEX, () -> x.drop(1));
        x.drop(0);
        dueFixed("terms: the last one was number 0 then", x, 2, 2, 2);
    }

    /** "over VARIABLES 1, 2, .., up to 80" */
    private static void variablesGoUpTo80() {
        ClauseGraph x = Make.clauses(79);
        due("terms: the last of 79", x.value(79), 0);
        CHECKS.refused("terms: no 80", ARGUMENT, () -> x.value(80));
        x.variables(80);
        x.clause(80, 80);
        due("terms: the first of 80", x.value(1), 0);
        due("terms: the last of 80", x.value(80), 1);
        CHECKS.refused("terms: no 81", ARGUMENT, () -> x.value(81));
        CHECKS.refused("terms: no 0", ARGUMENT, () -> x.value(0));
    }

    /** "(0 is none)" */
    private static void zeroIsNoLiteral() {
        ClauseGraph x = new ClauseGraph();
        CHECKS.refused("terms: clause(0, 1)", ARGUMENT, () -> x.clause(0, 1));
        CHECKS.refused("terms: clause(1, 0)", ARGUMENT, () -> x.clause(1, 0));
        CHECKS.refused("terms: clause(0, 0)", ARGUMENT, () -> x.clause(0, 0));
        CHECKS.refused("terms: implies(0, 1)", ARGUMENT, () -> x.implies(0, 1));
        CHECKS.refused("terms: implies(1, 0)", ARGUMENT, () -> x.implies(1, 0));
        CHECKS.refused("terms: implies(0, 0)", ARGUMENT, () -> x.implies(0, 0));
        due("terms: -1 is one", x.implies(-1, -1), true);
        due("terms: 1 is one", x.clause(1, 1), 1);
    }

    /** "A LITERAL is a variable that is there, or less than 0: its opposite" */
    private static void aLiteralIsAVariableOrItsOpposite() {
        for (int n : SIZES) {
            ClauseGraph yes = Make.clauses(n, n, n);
            due("terms: the variable, " + n, yes.fixed(n), 1);
            ClauseGraph no = Make.clauses(n, -n, -n);
            due("terms: its opposite, " + n, no.fixed(n), 0);
            CHECKS.refused("terms: not there, " + n, ARGUMENT, () -> no.clause(n + 1, 1));
            CHECKS.refused("terms: the opposite of none, " + n, ARGUMENT, () -> no.clause(-n - 1, 1));
        }
    }

    /** "A clause of two literals (perhaps the same)" */
    private static void twoLiteralsPerhapsTheSame() {
        dueFixed("terms: the same", Make.clauses(2, 1, 1), 1, 2);
        dueFixed("terms: the same opposite", Make.clauses(2, -1, -1), 0, 2);
        dueFixed("terms: two", Make.clauses(2, 1, 2), 2, 2);
    }

    /** "HOLDS if one of them is true" */
    private static void holdsIfOneIsTrue() {
        due("terms: the first one", Make.clauses(2, 1, 2, 1, 1, -2, -2).can(), true);
        due("terms: the second one", Make.clauses(2, 1, 2, -1, -1, 2, 2).can(), true);
        due("terms: both", Make.clauses(2, 1, 2, 1, 1, 2, 2).can(), true);
        due("terms: none", Make.clauses(2, 1, 2, -1, -1, -2, -2).can(), false);
        due("terms: always one of a literal and its opposite", Make.clauses(1, 1, -1, -1, 1).can(), true);
    }

    /** "An ASSIGNMENT gives each variable 0 (false) or 1" */
    private static void anAssignmentGivesEachVariable0Or1() {
        for (int n : SIZES) {
            ClauseGraph x = Make.clauses(n, n, n);
            due("terms: the last is true, " + n, x.value(n), 1);
            x.variables(n);
            due("terms: the last is in no clause, " + n, x.value(n), 0);
            x.clause(-n, -n);
            due("terms: the last is false, " + n, x.value(n), 0);
        }
    }

    /** "it is GOOD if all clauses hold" */
    private static void goodIfAllClausesHold() {
        due("terms: no clauses", Make.clauses(80).can(), true);
        due("terms: all but one", Make.clauses(3, 1, 2, 1, -2, -1, 3).can(), true);
        due("terms: all", nothingGood().can(), false);
        ClauseGraph last = Make.sameClause(2, 399, 1, 1);
        last.clause(-1, -1);
        due("terms: the last of 400 does not hold", last.can(), false);
    }

    /** "Of two assignments that is LESS which has 0 at the first variable where they differ." */
    private static void lessAtTheFirstVariableWhereTheyDiffer() {
        dueValues("terms: 01 before 10", Make.clauses(2, 1, 2), 0, 1);
        dueValues("terms: 011 before 100", Make.clauses(3, 1, 2, 1, 3), 0, 1, 1);
        dueValues("terms: 00 before all", Make.clauses(2, -1, 2), 0, 0);
        dueValues("terms: 100 before 101", Make.clauses(3, 1, 1, -2, 3), 1, 0, 0);
        ClauseGraph x = Make.clauses(80);
        for (int variable = 2; variable <= 80; variable++) {
            x.clause(1, variable);
        }
        due("terms: the first is 0, whatever the others pay", x.value(1), 0);
        due("terms: the second pays", x.value(2), 1);
        due("terms: the last pays", x.value(80), 1);
    }

    /** "THE STEPS of a clause a, b go from the opposite of a to b, and from the opposite of b to a." */
    private static void theStepsOfAClause() {
        ClauseGraph x = Make.clauses(2, 1, 2);
        due("terms: from -1 to 2", x.implies(-1, 2), true);
        due("terms: from -2 to 1", x.implies(-2, 1), true);
        due("terms: not from 1 to 2", x.implies(1, 2), false);
        due("terms: not from 1 to -2", x.implies(1, -2), false);
        due("terms: a, a has one step", Make.clauses(1, 1, 1, -1, -1).round(), 2);
        due("terms: steps of a, -a lead nowhere else", Make.clauses(1, 1, -1).round(), NONE);
    }

    /** "the one named first when several would do" */
    private static void theOneNamedFirst() {
        ClauseGraph x = nothingGood();
        CHECKS.refused("value: no variable, nothing good", ARGUMENT, () -> x.value(4));
        CHECKS.refused("value: no variable 0, nothing good", ARGUMENT, () -> x.value(0));
        CHECKS.refused("value: nothing good", STATE, () -> x.value(3));
        CHECKS.refused("fixed: no variable, nothing good", ARGUMENT, () -> x.fixed(4));
        CHECKS.refused("fixed: no variable 0, nothing good", ARGUMENT, () -> x.fixed(0));
        CHECKS.refused("fixed: nothing good", STATE, () -> x.fixed(3));
        CHECKS.refused("implies: a is none, nothing good", ARGUMENT, () -> x.implies(4, 1));
        CHECKS.refused("implies: b is none, nothing good", ARGUMENT, () -> x.implies(1, -4));
        CHECKS.refused("implies: both are none, nothing good", ARGUMENT, () -> x.implies(0, 0));
        CHECKS.refused("implies: nothing good", STATE, () -> x.implies(3, -3));
    }

    /** "one variable, no clauses" */
    private static void aNewObjectHasOneVariableAndNoClauses() {
        ClauseGraph x = new ClauseGraph();
        due("1 value", x.value(1), 0);
        CHECKS.refused("1 no variable 2", ARGUMENT, () -> x.value(2));
        CHECKS.refused("1 no variable 0", ARGUMENT, () -> x.value(0));
        due("1 fixed", x.fixed(1), 2);
        due("1 classes", x.classes(), 2);
        due("1 can", x.can(), true);
        due("1 fails", x.fails(), NONE);
        due("1 round", x.round(), NONE);
        due("1 rounds", x.rounds(), NONE);
        CHECKS.refused("1 no clause 0", INDEX, () -> x.drop(0));
        due("1 the first clause", x.clause(1, 1), 1);
        due("1 another object has none", new ClauseGraph().fixed(1), 2);
    }

    /** "There are n variables" */
    private static void variablesThereAre() {
        for (int n = 1; n <= 80; n++) {
            ClauseGraph x = Make.clauses(n);
            int next = n + 1;
            due("12 classes of " + n, x.classes(), 2 * n);
            due("12 the last of " + n, x.fixed(n), 2);
            CHECKS.refused("12 the next of " + n, ARGUMENT, () -> x.fixed(next));
        }
    }

    /** "and no clauses" */
    private static void variablesTakeTheClausesAway() {
        for (int n : new int[] {2, 3, 4, 80}) {
            ClauseGraph x = nothingGood();
            due("12 fails before", x.fails(), 4);
            due("12 round before", x.round(), 4);
            x.variables(n);
            due("12 can after variables(" + n + ")", x.can(), true);
            due("12 fails after variables(" + n + ")", x.fails(), NONE);
            due("12 round after variables(" + n + ")", x.round(), NONE);
            due("12 rounds after variables(" + n + ")", x.rounds(), NONE);
            due("12 classes after variables(" + n + ")", x.classes(), 2 * n);
            CHECKS.refused("12 nothing to drop after variables(" + n + ")", INDEX, () -> x.drop(0));
            due("12 the first clause after variables(" + n + ")", x.clause(1, 2), 1);
        }
        ClauseGraph full = Make.sameClause(80, 400, 80, 80);
        full.variables(1);
        full.variables(80);
        due("12 small, and large again: no clause comes back", full.fixed(80), 2);
        due("12 there is room again", full.clause(80, 80), 1);
    }

    /** "IllegalArgumentException: n is not 1 to 80." */
    private static void variablesAre1To80() {
        ClauseGraph x = new ClauseGraph();
        for (int n : new int[] {0, -1, -80, 81, 82, 160, LEAST, GREATEST}) {
            CHECKS.refused("12 variables(" + n + ")", ARGUMENT, () -> x.variables(n));
        }
        for (int n : new int[] {1, 2, 79, 80}) {
            x.variables(n);
            due("12 variables(" + n + ")", x.classes(), 2 * n);
        }
    }

    /** "A clause more, behind the others. Answers how many there are" */
    private static void clauseAnswersHowManyThereAre() {
        ClauseGraph x = Make.clauses(2);
        for (int i = 1; i <= 400; i++) {
            due("13 clause " + i, x.clause(i % 2 + 1, 2), i);
        }
        x.drop(0);
        x.drop(398);
        due("13 two less, one more", x.clause(1, 1), 399);
        ClauseGraph behind = Make.clauses(2, 1, 1, -1, -1, 2, 2);
        due("13 the third is behind the others", behind.fails(), 2);
        behind.drop(2);
        due("13 so it is the third that goes", behind.fails(), 2);
    }

    /** "NONE when there are 400." */
    private static void clauseAnswersNoneWhenThereAre400() {
        ClauseGraph x = Make.sameClause(1, 399, 1, 1);
        due("13 there are 399", x.clause(1, 1), 400);
        due("13 there are 400", x.clause(-1, -1), NONE);
        due("13 there are 400, and it is like them", x.clause(1, 1), NONE);
        CHECKS.refused("13 there are 400, and a is none", ARGUMENT, () -> x.clause(2, 1));
        CHECKS.refused("13 there are 400, and b is none", ARGUMENT, () -> x.clause(1, 0));
        due("13 all is good still", x.can(), true);
        x.drop(399);
        due("13 there are 399 again", x.clause(-1, -1), 400);
        due("13 this one was taken", x.fails(), 400);
    }

    /** "IllegalArgumentException: a or b is no literal." (clause) */
    private static void clauseNeedsLiterals() {
        needsALiteral("13 clause a", (x, literal) -> x.clause(literal, 1));
        needsALiteral("13 clause b", (x, literal) -> x.clause(-1, literal));
        needsALiteral("13 clause a and b", (x, literal) -> x.clause(literal, literal));
    }

    /** "A clause is gone" */
    private static void dropTakesThatClause() {
        int[][] want = {{2, 1, 1, 1}, {1, 2, 1, 1}, {1, 1, 2, 1}, {1, 1, 1, 2}};
        for (int place = 0; place < 4; place++) {
            ClauseGraph x = Make.clauses(4, 1, 1, 2, 2, 3, 3, 4, 4);
            x.drop(place);
            dueFixed("14 drop " + place, x, want[place]);
            due("14 one less", x.clause(1, 1), 4);
        }
        ClauseGraph twice = Make.clauses(1, 1, 1, 1, 1);
        twice.drop(0);
        due("14 of two that are the same one stays", twice.fixed(1), 1);
        twice.drop(0);
        due("14 then none", twice.fixed(1), 2);
    }

    /** "those behind it come one place forward" */
    private static void thoseBehindComeForward() {
        ClauseGraph x = Make.sameClause(2, 398, 2, 2);
        x.clause(1, 1);
        x.clause(-1, -1);
        due("14 the last of 400", x.fails(), 400);
        x.drop(0);
        due("14 one place forward", x.fails(), 399);
        x.drop(396);
        due("14 one more", x.fails(), 398);
        x.drop(397);
        due("14 the last one goes", x.fails(), NONE);
        due("14 those before it stay", x.fixed(1), 1);
        ClauseGraph first = Make.clauses(2, 1, 1, -1, -1, 2, 2, -2, -2);
        first.drop(0);
        due("14 another two fail", first.fails(), 3);
        first.drop(0);
        due("14 they come forward, too", first.fails(), 2);
    }

    /** "IndexOutOfBoundsException: there is none." */
    private static void dropNeedsItsClause() {
        for (int many : new int[] {1, 2, 399, 400}) {
            ClauseGraph x = Make.sameClause(1, many, 1, 1);
            for (int none : new int[] {-1, many, many + 1, LEAST, GREATEST}) {
                CHECKS.refused("14 drop " + none + " of " + many, INDEX, () -> x.drop(none));
            }
            x.drop(many - 1);
            CHECKS.refused("14 it is gone, of " + many, INDEX, () -> x.drop(many - 1));
            due("14 its place is free, of " + many, x.clause(1, 1), many);
            x.drop(0);
        }
        ClauseGraph x = new ClauseGraph();
        CHECKS.refused("14 drop 0 of none", INDEX, () -> x.drop(0));
        CHECKS.refused("14 drop -1 of none", INDEX, () -> x.drop(-1));
    }

    /** "Whether there is a good assignment." */
    private static void canWithAndWithoutTheLastClause() {
        ClauseGraph x = nothingGood();
        due("15 with the last", x.can(), false);
        x.drop(3);
        due("15 without it", x.can(), true);
        x.clause(-1, -3);
        due("15 with it again", x.can(), false);
        ClauseGraph way = Make.clauses(80, 1, 1);
        for (int variable = 1; variable < 80; variable++) {
            way.clause(-variable, variable + 1);
        }
        due("15 all 80 must be", way.can(), true);
        way.clause(-80, -80);
        due("15 the last may not", way.can(), false);
    }

    /** "The value of a variable in the least good assignment." */
    private static void valueInTheLeastGoodAssignment() {
        dueValues("16 none but one is good", Make.clauses(2, 1, 1, 2, 2), 1, 1);
        dueValues("16 two are good", Make.clauses(2, 1, 1), 1, 0);
        dueValues("16 a later one decides an earlier", Make.clauses(3, 3, 3, -3, 1), 1, 0, 1);
        dueValues("16 0 again behind one that must be 1", Make.clauses(3, 1, 2, 2, 3), 0, 1, 0);
        dueValues("16 0 leads to its opposite", Make.clauses(3, 1, 2, -2, 3, -3, 1), 1, 0, 0);
        ClauseGraph way = Make.clauses(80);
        for (int variable = 1; variable < 80; variable++) {
            way.clause(variable, -variable - 1);
        }
        due("16 the last may be 0", way.value(1), 0);
        way.clause(80, 80);
        due("16 the last draws the first", way.value(1), 1);
        due("16 and is 1 itself", way.value(80), 1);
    }

    /** "IllegalArgumentException: there is no such variable." (value) */
    private static void valueNeedsItsVariable() {
        needsItsVariable("16 value", (x, variable) -> x.value(variable));
    }

    /** "IllegalStateException: there is none." */
    private static void valueNeedsAGoodAssignment() {
        ClauseGraph x = nothingGood();
        for (int variable = 1; variable <= 3; variable++) {
            int asked = variable;
            CHECKS.refused("16 nothing good: " + variable, STATE, () -> x.value(asked));
        }
        x.drop(3);
        dueValues("16 good again", x, 1, 0, 1);
    }

    /** "The value that a variable has in all good assignments" */
    private static void fixedInAllGoodAssignments() {
        ClauseGraph x = Make.clauses(80, 1, 1);
        for (int variable = 1; variable < 79; variable++) {
            x.clause(-variable, variable + 1);
        }
        due("17 by 78 steps", x.fixed(79), 1);
        due("17 the next is free", x.fixed(80), 2);
        x.clause(-79, -80);
        due("17 now it must be 0", x.fixed(80), 0);
        x.drop(0);
        due("17 without the first clause it is free", x.fixed(80), 2);
        dueFixed("17 the only good assignment", Make.clauses(2, 1, 1, -1, -2), 1, 0);
    }

    /** "2 when it has 0 in some, and 1 in others" */
    private static void fixedIs2WhenItHasBoth() {
        dueFixed("17 in no clause", new ClauseGraph(), 2);
        dueFixed("17 in a clause", Make.clauses(2, 1, 2), 2, 2);
        dueFixed("17 one good one with 1 of three", Make.clauses(2, -1, -2), 2, 2);
        dueFixed("17 with a literal or its opposite", Make.clauses(1, 1, -1), 2);
        dueFixed("17 one clause more", Make.clauses(2, 1, 2, 1, -2), 1, 2);
    }

    /** "IllegalArgumentException: there is no such variable." (fixed) */
    private static void fixedNeedsItsVariable() {
        needsItsVariable("17 fixed", (x, variable) -> x.fixed(variable));
    }

    /** "IllegalStateException: there is no good assignment." (fixed) */
    private static void fixedNeedsAGoodAssignment() {
        ClauseGraph x = nothingGood();
        for (int variable = 1; variable <= 3; variable++) {
            int asked = variable;
            CHECKS.refused("17 nothing good: " + variable, STATE, () -> x.fixed(asked));
        }
        x.drop(3);
        dueFixed("17 good again", x, 1, 2, 1);
    }

    /** "Whether literal b is true in all good assignments in which a is" */
    private static void impliesInAllGoodAssignments() {
        ClauseGraph x = Make.clauses(3, -1, 2);
        due("18 so", x.implies(1, 2), true);
        due("18 the opposites turned round", x.implies(-2, -1), true);
        due("18 not turned round", x.implies(2, 1), false);
        due("18 itself", x.implies(3, 3), true);
        due("18 its opposite", x.implies(3, -3), false);
        x.clause(3, 3);
        due("18 what is true in all", x.implies(1, 3), true);
        due("18 and from its opposite's like", x.implies(-1, 3), true);
        due("18 what is true in none", x.implies(1, -3), false);
        ClauseGraph way = Make.clauses(80);
        for (int variable = 1; variable < 80; variable++) {
            way.clause(-variable, variable + 1);
        }
        due("18 the whole way", way.implies(1, 80), true);
        due("18 the whole way of opposites", way.implies(-80, -1), true);
        due("18 not back", way.implies(80, 1), false);
        way.drop(40);
        due("18 with a gap", way.implies(1, 80), false);
    }

    /** "(so, if a is in none)" */
    private static void impliesIfAIsInNone() {
        ClauseGraph x = Make.clauses(2, -1, -1);
        for (int b : new int[] {1, -1, 2, -2}) {
            due("18 a is in none: " + b, x.implies(1, b), true);
        }
        due("18 a is in all, b in all", x.implies(-1, -1), true);
        due("18 a is in all, b in some", x.implies(-1, 2), false);
        due("18 a is in all, b in none", x.implies(-1, 1), false);
        due("18 a is in some, b in none", x.implies(2, 1), false);
        x.drop(0);
        due("18 a is in some now", x.implies(1, 2), false);
    }

    /** "IllegalArgumentException: a or b is no literal." (implies) */
    private static void impliesNeedsLiterals() {
        needsALiteral("18 implies a", (x, literal) -> x.implies(literal, 1));
        needsALiteral("18 implies b", (x, literal) -> x.implies(-1, literal));
        needsALiteral("18 implies a and b", (x, literal) -> x.implies(literal, literal));
    }

    /** "IllegalStateException: there is no good assignment." (implies) */
    private static void impliesNeedsAGoodAssignment() {
        ClauseGraph x = nothingGood();
        CHECKS.refused("18 nothing good", STATE, () -> x.implies(1, 3));
        CHECKS.refused("18 nothing good, itself", STATE, () -> x.implies(-2, -2));
        x.drop(3);
        due("18 good again", x.implies(1, 3), true);
        due("18 good again, and not so", x.implies(1, 2), false);
    }

    /** "The least number of clauses (how many), from clause 0 on, with which there is no good assignment" */
    private static void failsIsTheLeastNumber() {
        due("19 the least of all", Make.clauses(1, 1, 1, -1, -1).fails(), 2);
        due("19 more clauses change nothing", Make.clauses(1, 1, 1, -1, -1, 1, 1, -1, -1).fails(), 2);
        due("19 one between", Make.clauses(1, 1, 1, 1, -1, -1, -1).fails(), 3);
        due("19 one before", Make.clauses(2, 2, 2, 1, 1, -1, -1).fails(), 3);
        ClauseGraph x = Make.sameClause(1, 399, 1, 1);
        due("19 399 are good", x.fails(), NONE);
        x.clause(-1, -1);
        due("19 all 400", x.fails(), 400);
        x.drop(10);
        due("19 all 399", x.fails(), 399);
        ClauseGraph asked = Make.clauses(2, 1, 1);
        due("19 one clause never fails", asked.fails(), NONE);
        asked.clause(-1, -1);
        due("19 asked between", asked.fails(), 2);
    }

    /** "NONE when there is one." (fails) */
    private static void failsIsNoneWhenThereIsOne() {
        due("19 no clauses", Make.clauses(80).fails(), NONE);
        due("19 a literal or its opposite", Make.clauses(1, 1, -1).fails(), NONE);
        ClauseGraph x = nothingGood();
        due("19 there is none", x.fails(), 4);
        x.drop(0);
        due("19 there is one", x.fails(), NONE);
        x.clause(1, 2);
        due("19 there is none again", x.fails(), 4);
    }

    /** "How many steps the shortest walk has that goes from a variable to its opposite, and back to it" */
    private static void roundIsTheShortest() {
        due("20 one there, one back", Make.clauses(1, 1, 1, -1, -1).round(), 2);
        due("20 one there, two back", Make.clauses(2, -1, -1, 1, 2, 1, -2).round(), 3);
        due("20 two there, two back", nothingGood().round(), 4);
        ClauseGraph x = Make.clauses(80, 1, 1);
        for (int variable = 1; variable < 80; variable++) {
            x.clause(-variable, variable + 1);
        }
        x.clause(-80, -80);
        due("20 through all literals", x.round(), 160);
        x.clause(80, 80);
        due("20 a later clause makes it short", x.round(), 2);
        x.drop(81);
        due("20 long again", x.round(), 160);
        x.clause(-1, -80);
        due("20 half as long", x.round(), 81);
    }

    /**
     * "(the same step may come twice)": here the step from 2 to 3 is on the way there, 1 to 2 to 3 to
     * -1, and on the way back, -1 to 2 to 3 to 1.
     */
    private static void theSameStepMayComeTwice() {
        ClauseGraph x = Make.clauses(3, -1, 2, 1, 2, -2, 3, -3, -1, -3, 1);
        due("20 three there, three back", x.round(), 6);
        due("21 of the first variable", x.rounds(), 1);
    }

    /** "NONE when there is none." (round) */
    private static void roundIsNoneWhenThereIsNone() {
        due("20 no clauses", Make.clauses(80).round(), NONE);
        due("20 there, but not back", Make.clauses(1, -1, -1).round(), NONE);
        due("20 back, but not there", Make.clauses(1, 1, 1).round(), NONE);
        due("20 a literal or its opposite", Make.clauses(1, 1, -1).round(), NONE);
        ClauseGraph x = nothingGood();
        due("20 there is one", x.round(), 4);
        x.drop(0);
        due("20 there is none", x.round(), NONE);
    }

    /** "The least variable with such a walk as short as that" */
    private static void roundsIsTheLeastVariable() {
        due("21 the first", Make.clauses(80, 1, 1, -1, -1).rounds(), 1);
        due("21 the last", Make.clauses(80, 80, 80, -80, -80).rounds(), 80);
        ClauseGraph x = Make.clauses(80, 80, 80, -80, -80, 79, 79);
        due("21 the last only", x.rounds(), 80);
        x.clause(-79, -79);
        due("21 the least of two as short", x.rounds(), 79);
        ClauseGraph longer = Make.clauses(4, 1, 2, 1, -2, -1, 2, -1, -2, 4, 4);
        due("21 the least with four steps", longer.rounds(), 1);
        longer.clause(-4, -4);
        due("21 a greater one with two steps", longer.rounds(), 4);
        longer.drop(4);
        due("21 the least again", longer.rounds(), 1);
        due("21 not one that only leads to it", Make.clauses(3, -1, 2, 3, 3, -3, -3).rounds(), 3);
    }

    /** "NONE when there is none." (rounds) */
    private static void roundsIsNoneWhenThereIsNone() {
        due("21 no clauses", Make.clauses(80).rounds(), NONE);
        due("21 there, but not back", Make.clauses(1, -1, -1).rounds(), NONE);
        ClauseGraph x = nothingGood();
        due("21 there is one", x.rounds(), 1);
        x.drop(3);
        due("21 there is none", x.rounds(), NONE);
        x.variables(3);
        due("21 there are no clauses", x.rounds(), NONE);
    }

    /** "How many classes all literals .. make, those that are true in the same good assignments being one" */
    private static void classesOfAllLiterals() {
        ClauseGraph x = Make.clauses(80);
        for (int variable = 1; variable < 80; variable++) {
            x.clause(-variable, variable + 1);
        }
        due("22 a way: all differ", x.classes(), 160);
        x.clause(-80, 2);
        due("22 all but the first are the same", x.classes(), 4);
        x.clause(-80, 1);
        due("22 all are the same", x.classes(), 2);
        due("22 a literal and another's opposite are the same", Make.clauses(2, 1, 2, -1, -2).classes(), 2);
        due("22 one way only", Make.clauses(2, 1, 2).classes(), 4);
    }

    /** "(also of variables in no clause)" */
    private static void classesOfVariablesInNoClause() {
        due("22 one variable", new ClauseGraph().classes(), 2);
        due("22 two variables", Make.clauses(2).classes(), 4);
        due("22 79 variables", Make.clauses(79).classes(), 158);
        due("22 80 variables", Make.clauses(80).classes(), 160);
        due("22 two of three are the same", Make.clauses(3, 1, -2, -1, 2).classes(), 4);
        due("22 one of three is fixed", Make.clauses(3, 2, 2).classes(), 6);
    }

    /** "(those that are true in all, or in none, too)" */
    private static void classesOfWhatIsTrueInAllOrNone() {
        due("22 one of one", Make.clauses(1, 1, 1).classes(), 2);
        due("22 two of two", Make.clauses(2, 1, 1, -2, -2).classes(), 2);
        due("22 two of three", Make.clauses(3, 1, 1, -2, -2).classes(), 4);
        due("22 two that no step joins", Make.clauses(3, -1, -1, -3, -3).classes(), 4);
        ClauseGraph all = Make.clauses(80);
        for (int variable = 1; variable < 80; variable++) {
            all.clause(variable, variable);
        }
        due("22 all but the last", all.classes(), 4);
        all.clause(-80, -80);
        due("22 all 80", all.classes(), 2);
    }

    /** "IllegalStateException: there is no good assignment." (classes) */
    private static void classesNeedAGoodAssignment() {
        ClauseGraph x = nothingGood();
        CHECKS.refused("22 nothing good", STATE, () -> x.classes());
        x.drop(3);
        due("22 good again", x.classes(), 4);
        x.clause(-1, -1);
        CHECKS.refused("22 nothing good once more", STATE, () -> x.classes());
    }
}
