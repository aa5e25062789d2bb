import java.util.ArrayList;
import java.util.List;

/** What an object answers, written down call by call, so that two objects can be compared. */
final class Answers {
    /** A call of the face; one that answers nothing gives null. */
    interface Call {
        Object on(ClauseGraph x);
    }

    private final ClauseGraph x;
    private final List<String> told = new ArrayList<>();

    Answers(ClauseGraph x) {
        this.x = x;
    }

    /** The answer as text; an exception as throws. and its name. */
    static String of(ClauseGraph x, Call call) {
        try {
            return String.valueOf(call.on(x));
        } catch (RuntimeException e) {
            return "throws." + e.getClass().getSimpleName();
        }
    }

    Answers tell(String name, Call call) {
        told.add(name + " = " + of(x, call));
        return this;
    }

    /** Asks all there is to ask about the graph, whose nodes are n or less. */
    Answers tellGraph(int n) {
        tell("parts()", y -> y.parts());
        tell("missing()", y -> y.missing());
        for (int i = 0; i < n; i++) {
            int from = i;
            tell("part(" + i + ")", y -> y.part(from));
            tell("counted(" + i + ", 0)", y -> y.counted(from, 0));
            tell("counted(" + i + ", 1)", y -> y.counted(from, 1));
            for (int j = 0; j < n; j++) {
                int to = j;
                tell("reaches(" + i + ", " + j + ")", y -> y.reaches(from, to));
                tell("walk(" + i + ", " + j + ")", y -> y.walk(from, to));
            }
            for (int k = 0; k <= 6; k++) {
                int what = k;
                tell("about(" + i + ", " + k + ")", y -> y.about(from, what));
            }
        }
        return tell("part(" + n + ")", y -> y.part(n));
    }

    /** Asks all there is to ask about the clauses, whose variables are n or less. */
    Answers tellClauses(int n) {
        tell("rounds()", y -> y.rounds());
        tell("round()", y -> y.round());
        tell("classes()", y -> y.classes());
        tell("can()", y -> y.can());
        tell("fails()", y -> y.fails());
        for (int i = 1; i <= n + 1; i++) {
            int variable = i;
            tell("value(" + i + ")", y -> y.value(variable));
            tell("fixed(" + i + ")", y -> y.fixed(variable));
        }
        for (int i = -n; i <= n; i++) {
            for (int j = -n; j <= n; j++) {
                int a = i;
                int b = j;
                if (a != 0 && b != 0) {
                    tell("implies(" + a + ", " + b + ")", y -> y.implies(a, b));
                }
            }
        }
        return this;
    }

    int size() {
        return told.size();
    }

    String get(int place) {
        return told.get(place);
    }
}
