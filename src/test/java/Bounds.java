import java.util.function.Consumer;
import java.util.function.Supplier;
import java.util.function.ToIntFunction;

/** How the tests of bounds look at a call: what it answers, and whether anything has happened. */
final class Bounds {
    private final Due due;

    Bounds(Due due) {
        this.due = due;
    }

    /** A call that is refused: its answer, and nothing happens. */
    void refused(String call, Supplier<MendHall> made, ToIntFunction<MendHall> called, int want) {
        MendHall x = made.get();
        Shown before = Shown.of(x);
        due.is(call, called.applyAsInt(x), want);
        same(call + " shows as before", Shown.of(x), before);
        due.is(call + " once more", called.applyAsInt(x), want);
        same(call + " does nothing", Shown.takenApart(x), Shown.takenApart(made.get()));
    }

    /** A call that asks: its answer, and nothing changes. */
    void asked(String call, Supplier<MendHall> made, ToIntFunction<MendHall> called, int want) {
        refused(call, made, called, want);
    }

    /** A text with a FAULT: what it answers, that the TAPE is empty then, and all else stays. */
    void fault(String text, boolean asHall, Supplier<MendHall> made, int place, int why) {
        MendHall x = made.get();
        x.end(0);
        Shown before = Shown.of(x);
        Due.tell(x, text);
        String call = (asHall ? "hall() of '" : "rule() of '") + text + "'";
        due.is(call, asHall ? x.hall() : x.rule(), Due.fault(place, why));
        same(call + " shows as before", Shown.of(x), before);
        MendHall twin = made.get();
        twin.end(0);
        same(call + " leaves all", Shown.takenApart(x), Shown.takenApart(twin));
    }

    /** Behind the one call all is as behind the other. */
    void alike(String what, Supplier<MendHall> made, Consumer<MendHall> one,
            Consumer<MendHall> other) {
        MendHall x = made.get();
        MendHall y = made.get();
        one.accept(x);
        other.accept(y);
        same(what, Shown.takenApart(x), Shown.takenApart(y));
    }

    private void same(String what, Shown got, Shown want) {
        String otherwise = got.otherThan(want);
        due.holds(what + (otherwise.isEmpty() ? "" : "; first otherwise " + otherwise),
                otherwise.isEmpty());
    }
}
