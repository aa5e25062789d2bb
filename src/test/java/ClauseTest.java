/** Promises 12 to 22, by hand: ordinary inputs, the edges that the document names, and wrong inputs. */
public final class ClauseTest {
    private static final Class<IndexOutOfBoundsException> INDEX = IndexOutOfBoundsException.class;
    private static final Class<IllegalArgumentException> ARGUMENT = IllegalArgumentException.class;
    private static final Class<IllegalStateException> STATE = IllegalStateException.class;
    private static final Checks CHECKS = new Checks("ClauseTest");

    public static void main(String[] args) {
        promise12Variables();
        promise13Clause();
        promise13FourHundred();
        promise14Drop();
        promise14DropKeepsTheStepsOfOthers();
        promise15Can();
        promise16Value();
        promise17Fixed();
        promise18Implies();
        promise19Fails();
        promise20And21Round();
        promise21TheLeastVariable();
        promise22Classes();
        nothingGoodIsRefused();
        CHECKS.end();
    }

    private static void due(String what, long got, long want) {
        CHECKS.due(what, got, want);
    }

    private static void due(String what, boolean got, boolean want) {
        CHECKS.due(what, got, want);
    }

    private static void promise12Variables() {
        ClauseGraph x = Make.clauses(3, 3, 3);
        x.nodes(2);
        x.arc(0, 1);
        for (int n : new int[] {0, -1, 81, Integer.MIN_VALUE, Integer.MAX_VALUE}) {
            CHECKS.refused("12 variables(" + n + ")", ARGUMENT, () -> x.variables(n));
        }
        due("12 a refused call changes nothing", x.value(3), 1);
        x.variables(80);
        due("12 no clauses", x.value(3), 0);
        due("12 clauses count anew", x.clause(80, -80), 1);
        due("12 arcs stay", x.reaches(0, 1), true);
        CHECKS.refused("12 value(81)", ARGUMENT, () -> x.value(81));
        x.variables(1);
        CHECKS.refused("12 value(2)", ARGUMENT, () -> x.value(2));
        x.clause(1, 1);
        x.clause(-1, -1);
        due("12 nothing good", x.can(), false);
        x.variables(1);
        due("12 good again", x.can(), true);
        due("12 no round", x.round(), -1);
        due("12 no rounds", x.rounds(), -1);
        due("12 nothing fails", x.fails(), -1);
    }

    private static void promise13Clause() {
        ClauseGraph x = Make.clauses(4);
        due("13 first", x.clause(1, -4), 1);
        due("13 the same again is one more", x.clause(1, -4), 2);
        due("13 the same literal twice", x.clause(2, 2), 3);
        due("13 a literal and its opposite", x.clause(3, -3), 4);
        int[] none = {0, 5, -5, Integer.MIN_VALUE, Integer.MAX_VALUE};
        for (int literal : none) {
            CHECKS.refused("13 clause(" + literal + ", 1)", ARGUMENT, () -> x.clause(literal, 1));
            CHECKS.refused("13 clause(1, " + literal + ")", ARGUMENT, () -> x.clause(1, literal));
        }
        due("13 refused ones do not count", x.clause(-1, -2), 5);
        x.nodes(3);
        due("13 clauses stay with nodes", x.clause(-1, -2), 6);
    }

    private static void promise13FourHundred() {
        ClauseGraph x = Make.clauses(2);
        for (int i = 1; i <= 400; i++) {
            due("13 clause " + i, x.clause(1, 2), i);
        }
        due("13 one too many", x.clause(-1, -1), -1);
        due("13 and again", x.clause(-1, -1), -1);
        due("13 it changed nothing", x.fixed(1), 2);
        CHECKS.refused("13 no literal comes first", ARGUMENT, () -> x.clause(3, 1));
        x.drop(399);
        due("13 room again", x.clause(-1, -1), 400);
        due("13 the last one counts", x.fixed(1), 0);
        x.drop(0);
        due("13 room at the front", x.clause(-2, -2), 400);
        due("13 all of them fail", x.fails(), 400);
    }

    private static void promise14Drop() {
        ClauseGraph x = Make.clauses(3, 1, 1, 2, 2, 3, 3);
        CHECKS.refused("14 drop(-1)", INDEX, () -> x.drop(-1));
        CHECKS.refused("14 drop(3)", INDEX, () -> x.drop(3));
        CHECKS.refused("14 drop(400)", INDEX, () -> x.drop(400));
        x.drop(0);
        due("14 the first is gone", x.fixed(1), 2);
        due("14 the second stays", x.fixed(2), 1);
        x.drop(1);
        due("14 those behind came forward", x.fixed(3), 2);
        due("14 what is left", x.fixed(2), 1);
        CHECKS.refused("14 drop(1)", INDEX, () -> x.drop(1));
        due("14 one more", x.clause(1, 1), 2);
        x.drop(0);
        x.drop(0);
        CHECKS.refused("14 none left", INDEX, () -> x.drop(0));
    }

    private static void promise14DropKeepsTheStepsOfOthers() {
        ClauseGraph x = Make.clauses(2, 1, 2, 2, 1, -1, -1);
        due("14 2 must be", x.fixed(2), 1);
        x.drop(0);
        due("14 2 must be by the other one", x.fixed(2), 1);
        x.drop(0);
        due("14 2 is free", x.fixed(2), 2);
    }

    private static void promise15Can() {
        due("15 no clauses", Make.clauses(80).can(), true);
        due("15 each of four", Make.clauses(2, 1, 2, 1, -2, -1, 2, -1, -2).can(), false);
        due("15 three of four", Make.clauses(2, 1, 2, 1, -2, -1, 2).can(), true);
        due("15 a literal or its opposite", Make.clauses(1, 1, -1).can(), true);
        due("15 both", Make.clauses(1, 1, 1, -1, -1).can(), false);
    }

    private static void promise16Value() {
        ClauseGraph x = Make.clauses(4, 1, 2, -2, 3);
        int[] want = {0, 1, 1, 0};
        for (int variable = 1; variable <= 4; variable++) {
            due("16 value(" + variable + ")", x.value(variable), want[variable - 1]);
        }
        due("16 the first variable counts most", Make.clauses(3, 1, 2, 1, 3).value(1), 0);
        due("16 the last one pays", Make.clauses(2, 1, 2).value(2), 1);
        due("16 a later clause binds an earlier one", Make.clauses(2, 1, -2, 2, 2).value(1), 1);
        for (int variable : new int[] {0, -1, 5, Integer.MIN_VALUE, Integer.MAX_VALUE}) {
            CHECKS.refused("16 value(" + variable + ")", ARGUMENT, () -> x.value(variable));
        }
    }

    private static void promise17Fixed() {
        ClauseGraph x = Make.clauses(5, 1, 2, 1, -2, -1, -3, 4, 5);
        int[] want = {1, 2, 0, 2, 2};
        for (int variable = 1; variable <= 5; variable++) {
            due("17 fixed(" + variable + ")", x.fixed(variable), want[variable - 1]);
        }
        for (int variable : new int[] {0, -1, 6, Integer.MIN_VALUE, Integer.MAX_VALUE}) {
            CHECKS.refused("17 fixed(" + variable + ")", ARGUMENT, () -> x.fixed(variable));
        }
    }

    private static void promise18Implies() {
        ClauseGraph x = Make.clauses(5, -1, 2, -2, 3, 4, 4);
        due("18 in two steps", x.implies(1, 3), true);
        due("18 the opposites go back", x.implies(-3, -1), true);
        due("18 not so", x.implies(3, 1), false);
        due("18 itself", x.implies(5, 5), true);
        due("18 not its opposite", x.implies(5, -5), false);
        due("18 what is true always", x.implies(5, 4), true);
        due("18 from what is true in none", x.implies(-4, 5), true);
        due("18 from what is true in none to its opposite", x.implies(-4, 4), true);
        due("18 from what is always true", x.implies(4, 5), false);
        due("18 to what is true in none", x.implies(5, -4), false);
        for (int literal : new int[] {0, 6, -6, Integer.MIN_VALUE, Integer.MAX_VALUE}) {
            CHECKS.refused("18 implies(" + literal + ", 1)", ARGUMENT, () -> x.implies(literal, 1));
            CHECKS.refused("18 implies(1, " + literal + ")", ARGUMENT, () -> x.implies(1, literal));
        }
    }

    private static void promise19Fails() {
        ClauseGraph x = Make.clauses(3, 3, 3, 1, 2, 1, -2, -1, 2);
        due("19 good still", x.fails(), -1);
        x.clause(-1, -2);
        due("19 the fifth", x.fails(), 5);
        x.clause(-3, -3);
        due("19 still the fifth", x.fails(), 5);
        x.drop(1);
        due("19 another reason then", x.fails(), 5);
        x.drop(0);
        due("19 good again", x.fails(), -1);
        due("19 the fewest", Make.clauses(1, -1, -1, 1, 1, 1, 1).fails(), 2);
    }

    private static void promise20And21Round() {
        ClauseGraph x = Make.clauses(3, 1, 2, 1, -2, -1, 3);
        due("20 none", x.round(), -1);
        due("21 none", x.rounds(), -1);
        x.clause(-1, -3);
        due("20 two there, two back", x.round(), 4);
        due("21 its variable", x.rounds(), 1);
        x.clause(3, 3);
        due("20 as short as before", x.round(), 4);
        x.clause(-3, -3);
        due("20 shorter by a later clause", x.round(), 2);
        due("21 another variable", x.rounds(), 3);
        x.drop(5);
        due("20 longer again", x.round(), 4);
        due("21 the first variable again", x.rounds(), 1);
        due("20 one there, many back", Make.clauses(3, 1, 1, -1, 2, -2, 3, -3, -1).round(), 4);
        due("20 one there, two back", Make.clauses(2, -1, 2, -2, -2, 1, 2).round(), 3);
        due("21 one there, two back", Make.clauses(2, -1, 2, -2, -2, 1, 2).rounds(), 2);
    }

    private static void promise21TheLeastVariable() {
        due("21 two as short", Make.clauses(4, 4, 4, -4, -4, 2, 2, -2, -2).rounds(), 2);
        due("20 of the last", Make.clauses(80, 80, 80, -80, -80).round(), 2);
        due("21 the last", Make.clauses(80, 80, 80, -80, -80).rounds(), 80);
    }

    private static void promise22Classes() {
        due("22 no clauses", Make.clauses(80).classes(), 160);
        due("22 one is fixed", Make.clauses(3, 1, 1).classes(), 6);
        due("22 two are fixed, one each way", Make.clauses(3, 1, 1, -2, -2).classes(), 4);
        due("22 all are fixed", Make.clauses(2, 1, 1, -2, -2).classes(), 2);
        due("22 two that are the same", Make.clauses(3, -1, 2, -2, 1).classes(), 4);
        due("22 two that are opposites", Make.clauses(3, 1, 2, -1, -2).classes(), 4);
        due("22 one way only", Make.clauses(2, -1, 2).classes(), 4);
    }

    private static void nothingGoodIsRefused() {
        ClauseGraph x = Make.clauses(2, 1, 1, -1, -1);
        CHECKS.refused("16 value", STATE, () -> x.value(2));
        CHECKS.refused("16 no variable comes first", ARGUMENT, () -> x.value(3));
        CHECKS.refused("17 fixed", STATE, () -> x.fixed(2));
        CHECKS.refused("17 no variable comes first", ARGUMENT, () -> x.fixed(0));
        CHECKS.refused("18 implies", STATE, () -> x.implies(2, 2));
        CHECKS.refused("18 no literal comes first", ARGUMENT, () -> x.implies(2, 3));
        CHECKS.refused("22 classes", STATE, () -> x.classes());
        x.drop(1);
        due("16 good again", x.value(1), 1);
        due("22 good again", x.classes(), 4);
    }
}
