import java.util.ArrayList;
import java.util.List;

/** What calls that change nothing show of a MendHall, and what those that take it apart bring out. */
final class Shown {
    private final List<String> calls = new ArrayList<>();
    private final List<Integer> answers = new ArrayList<>();

    /** What there is, by the calls that change nothing alone. */
    static Shown of(MendHall x) {
        Shown shown = new Shown();
        shown.noteState(x);
        shown.noteAsked(x);
        return shown;
    }

    /** All there is, by taking it apart: what can be UNDONE, the RULES, the IMAGES, the TAPE's FAULT. */
    static Shown takenApart(MendHall x) {
        Shown shown = of(x);
        int acts = x.count(14);
        for (int n = 0; n <= acts; n++) {
            shown.note("undo()", x.undo());
            shown.noteState(x);
        }
        int rules = x.count(5);
        for (int rule = -1; rule <= rules; rule++) {
            shown.note("force(" + rule + ")", x.force(rule));
            shown.note("ahead(0, 400, 2)", x.ahead(0, 400, 2));
        }
        for (int k = 0; k < 4; k++) {
            shown.note("back(" + k + ")", x.back(k));
            shown.noteState(x);
            shown.note("undo()", x.undo());
            shown.noteState(x);
        }
        shown.note("rule()", x.rule());
        shown.note("hall()", x.hall());
        shown.noteState(x);
        return shown;
    }

    private void note(String call, int answer) {
        calls.add(call);
        answers.add(answer);
    }

    private void noteState(MendHall x) {
        for (int what = 0; what <= 16; what++) {
            note("count(" + what + ")", x.count(what));
        }
        for (int thing = 0; thing < 8; thing++) {
            for (int what = 0; what < 6; what++) {
                note("thing(" + thing + ", " + what + ")", x.thing(thing, what));
            }
        }
        for (int mender = 0; mender < 5; mender++) {
            for (int what = 0; what < 8; what++) {
                note("mender(" + mender + ", " + what + ")", x.mender(mender, what));
            }
            note("sort(" + mender + ", 0)", x.sort(mender, 0));
            note("sort(" + mender + ", 1)", x.sort(mender, 1));
        }
    }

    private void noteAsked(MendHall x) {
        for (int thing = 0; thing < 7; thing++) {
            note("ahead(" + thing + ", 1, 0)", x.ahead(thing, 1, 0));
            note("done(" + thing + ")", x.done(thing));
            note("waits(" + thing + ")", x.waits(thing));
        }
        for (int number = 0; number < 4; number++) {
            note("ahead(" + number + ", 1, 1)", x.ahead(number, 1, 1));
            note("take(" + number + ", 0)", x.take(number, 0));
            note("take(" + number + ", 1)", x.take(number, 1));
            note("late(" + number + ")", x.late(number));
            note("idle(" + number + ")", x.idle(number));
        }
        note("ahead(0, 400, 2)", x.ahead(0, 400, 2));
        for (int what = 0; what < 6; what++) {
            note("match(" + what + ")", x.match(what));
        }
        for (int what = 0; what < 3; what++) {
            note("swap(" + what + ")", x.swap(what));
        }
        for (int what = 0; what < 2; what++) {
            note("part(" + what + ")", x.part(what));
            note("askIn(" + what + ")", x.askIn(what));
            note("ruled(" + what + ")", x.ruled(what));
            note("look(9, " + what + ")", x.look(9, what));
            note("saturdays(3, 9, " + what + ")", x.saturdays(3, 9, what));
        }
    }

    /** The first call that another object answers otherwise; empty if there is none. */
    String otherThan(Shown other) {
        for (int i = 0; i < calls.size() && i < other.calls.size(); i++) {
            if (!calls.get(i).equals(other.calls.get(i))
                    || answers.get(i).intValue() != other.answers.get(i)) {
                return i + ": " + calls.get(i) + " " + answers.get(i) + ", " + other.calls.get(i) + " "
                        + other.answers.get(i);
            }
        }
        return calls.size() == other.calls.size() ? "" : "more calls";
    }
}
