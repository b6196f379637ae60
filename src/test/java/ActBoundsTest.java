import java.util.function.Consumer;
import java.util.function.Supplier;

/** The bounds of ACTS (part II, and promises 11 to 15), sentence by sentence. */
public final class ActBoundsTest {
    private static final Due DUE = new Due("ActBoundsTest");
    private static final Bounds BOUNDS = new Bounds(DUE);
    private static final int[] NO_NUMBERS = {-1, -2, 7, 8, 100, Integer.MAX_VALUE, Integer.MIN_VALUE};

    public static void main(String[] args) {
        giveAMenderWhoIsFree();
        giveAThingThatWaits();
        giveAThingTheyHaveASkillFor();
        giveAThingWithAPart();
        giveAtCoffeeOrNot();
        giveBehindEnd();
        giveMinutesToGo();
        putDownAMenderWhoMends();
        putDownAsLongAsSinceItCame();
        putDownAPartIsNotHadBack();
        bringASort();
        bring99AtMost();
        coffeeAMenderWhoIsFree();
        coffeeNotAtIt();
        coffee1To60();
        coffeeHowMany();
        undoTheLast20();
        undoTheLastFirst();
        undoNoneCanBe();
        undoIsNoAct();
        undoOfEachAct();
        noActIsNotUndone();
        DUE.finish();
    }

    private static Supplier<MendHall> made(String hall, Consumer<MendHall> lived) {
        return () -> {
            MendHall x = Due.open(hall, "take 0", "take worth");
            x.force(0);
            x.seed(99);
            lived.accept(x);
            return x;
        };
    }

    private static void noGive(String why, Supplier<MendHall> made, int mender, int thing) {
        BOUNDS.refused("give(" + mender + ", " + thing + "), " + why, made,
                x -> x.give(mender, thing), -1);
    }

    /** "GIVE (a MENDER who is free": the first and the last there is; who mends is not. */
    private static void giveAMenderWhoIsFree() {
        String hall = "hall 30 30;sort 0 0;mender;mender;mender;skill 0 0 5;skill 1 0 6;skill 2 0 7;"
                + "thing 0 0 1 0;thing 0 0 2 0";
        Supplier<MendHall> made = made(hall, x -> {
            x.minute();
            x.give(1, 1);
        });
        DUE.is("MENDER 0", made.get().give(0, 0), 5);
        DUE.is("MENDER 2", made.get().give(2, 0), 7);
        noGive("not free", made, 1, 0);
        noGive("not free, what they mend", made, 1, 1);
        noGive("there are 3", made, 3, 0);
        noGive("there are 4 at most", made, 4, 0);
        for (int bad : NO_NUMBERS) {
            noGive("none such", made, bad, 0);
        }
        noGive("without a HALL", MendHall::new, 0, 0);
        MendHall x = made.get();
        Due.minutes(x, 5);
        DUE.is("1 minute to go", x.mender(1, 1), 1);
        DUE.is("not free yet", x.give(1, 0), -1);
        x.minute();
        DUE.is("free again", x.give(1, 0), 6);
    }

    /** "a THING they can take", "a THING that waits" */
    private static void giveAThingThatWaits() {
        String hall = "hall 30 6;sort 0 0;mender;mender;skill 0 0 1;skill 1 0 30;"
                + "thing 0 0 1 0;thing 0 5 2 0;thing 0 6 3 0;thing 0 0 4 0;thing 0 0 5 0";
        Supplier<MendHall> made = made(hall, x -> {
            x.minute();
            x.give(0, 0);
            x.give(1, 3);
            Due.minutes(x, 5);
        });
        MendHall x = made.get();
        DUE.is("MENDED", x.thing(0, 4), 3);
        DUE.is("waits", x.thing(1, 4), 1);
        DUE.is("has not come", x.thing(2, 4), 0);
        DUE.is("in work", x.thing(3, 4), 2);
        DUE.is("waits, the last minute", x.thing(4, 4), 1);
        DUE.is("that waits", x.give(0, 1), 1);
        DUE.is("that waits", made.get().give(0, 4), 1);
        noGive("MENDED", made, 0, 0);
        noGive("has not come", made, 0, 2);
        noGive("in work", made, 0, 3);
        noGive("none such", made, 0, 5);
        for (int bad : NO_NUMBERS) {
            noGive("none such", made, 0, bad);
        }
        Supplier<MendHall> later = made(hall, y -> Due.minutes(y, 7));
        DUE.is("gone", later.get().thing(4, 4), 4);
        DUE.is("has come", later.get().give(0, 2), 1);
        noGive("gone", later, 0, 4);
        noGive("before minute 0", made(hall, y -> { }), 0, 0);
    }

    private static void giveAThingTheyHaveASkillFor() {
        Supplier<MendHall> made = made("hall 30 6;sort 0 0;sort 0 0;mender;mender;skill 0 0 1;"
                + "skill 1 1 1;thing 0 0 1 0;thing 1 0 1 0", MendHall::minute);
        DUE.is("a skill", made.get().give(0, 0), 1);
        DUE.is("a skill", made.get().give(1, 1), 1);
        noGive("no skill", made, 0, 1);
        noGive("no skill", made, 1, 0);
    }

    private static void giveAThingWithAPart() {
        Supplier<MendHall> made = made("hall 30 6;sort 0 1;sort 0 9;mender;mender;skill 0 0 5;skill 1 0 6;"
                + "thing 0 0 1 1;thing 0 0 1 1;thing 0 0 1 0", MendHall::minute);
        MendHall x = made.get();
        DUE.is("the last part", x.give(0, 0), 5);
        DUE.is("used up", x.sort(0, 1), 0);
        DUE.is("of the other SORT none", x.sort(1, 1), 9);
        DUE.is("no part", x.give(1, 1), -1);
        DUE.is("it NEEDS none", x.give(1, 2), 6);
        DUE.is("none used up", x.sort(0, 1), 0);
        noGive("no part", made("hall 30 6;sort 0 1;mender;mender;skill 0 0 5;skill 1 0 6;thing 0 0 1 1;"
                + "thing 0 0 1 1", y -> {
                    y.minute();
                    y.give(0, 0);
                }), 1, 1);
    }

    /** "at COFFEE or not"; COFFEE goes on. */
    private static void giveAtCoffeeOrNot() {
        MendHall x = made("hall 30 6;sort 0 1;mender;skill 0 0 2;thing 0 0 1 1", y -> {
            y.coffee(0, 3);
            y.minute();
        }).get();
        DUE.is("at COFFEE", x.mender(0, 2), 2);
        DUE.is("GIVEN", x.give(0, 0), 2);
        DUE.is("at COFFEE still", x.mender(0, 2), 2);
        DUE.is("in work", x.minute(), 0);
        DUE.is("1 minute to go", x.mender(0, 1), 1);
        DUE.is("1 of COFFEE", x.mender(0, 2), 1);
        DUE.is("MENDED", x.minute(), 1);
        DUE.is("none of COFFEE", x.mender(0, 2), 0);
    }

    /** No sentence keeps a GIVE from END on: of what was put down. */
    private static void giveBehindEnd() {
        MendHall x = made("hall 2 30;sort 0 0;mender;mender;skill 0 0 9;skill 1 0 3;thing 0 0 5 0", y -> {
            y.minute();
            y.give(0, 0);
            Due.minutes(y, 2);
        }).get();
        DUE.is("behind END", x.count(7), 3);
        x.putDown(0);
        DUE.is("GIVEN", x.give(1, 0), 3);
        Due.minutes(x, 2);
        DUE.is("MENDED", x.minute(), 1);
    }

    /** Promise 11: "minutes to go": MINUTES and LOOK, 1 to 69. */
    private static void giveMinutesToGo() {
        Supplier<MendHall> made = made("hall 30 6;sort 0 0;sort 9 0;mender;skill 0 0 1;skill 0 1 60;"
                + "thing 0 0 1 0;thing 1 0 1 0", MendHall::minute);
        MendHall x = made.get();
        DUE.is("1", x.give(0, 0), 1);
        DUE.is("mender(0, 1)", x.mender(0, 1), 1);
        DUE.is("mender(0, 0)", x.mender(0, 0), 0);
        DUE.is("in work", x.count(9), 1);
        DUE.is("an ACT", x.count(14), 2);
        DUE.is("no MINUTE", x.count(7), 1);
        DUE.is("69", made.get().give(0, 1), 69);
    }

    private static void noPutDown(String why, Supplier<MendHall> made, int mender) {
        BOUNDS.refused("putDown(" + mender + "), " + why, made, x -> x.putDown(mender), -1);
    }

    /** "PUT DOWN (a MENDER who mends is free, the THING waits again" */
    private static void putDownAMenderWhoMends() {
        Supplier<MendHall> made = made("hall 30 30;sort 0 0;mender;mender;mender;skill 0 0 5;skill 1 0 6;"
                + "skill 2 0 7;thing 0 0 1 0;thing 0 0 2 0", x -> {
                    x.minute();
                    x.give(0, 1);
                    x.give(2, 0);
                    x.minute();
                });
        MendHall x = made.get();
        DUE.is("the THING", x.putDown(0), 1);
        DUE.is("free", x.mender(0, 0), -1);
        DUE.is("nothing to go", x.mender(0, 1), 0);
        DUE.is("waits again", x.count(8), 2);
        DUE.is("in work", x.count(9), 1);
        DUE.is("free already", x.putDown(0), -1);
        DUE.is("the other THING", x.putDown(2), 0);
        DUE.is("ACTS", x.count(14), 6);
        noPutDown("free", made, 1);
        noPutDown("there are 3", made, 3);
        noPutDown("there are 4 at most", made, 4);
        for (int bad : NO_NUMBERS) {
            noPutDown("none such", made, bad);
        }
        noPutDown("without a HALL", MendHall::new, 0);
        MendHall y = made.get();
        Due.minutes(y, 3);
        DUE.is("1 minute to go", y.mender(0, 1), 1);
        DUE.is("in the last minute", y.putDown(0), 1);
        y.undo();
        y.minute();
        DUE.is("MENDED: free", y.putDown(0), -1);
    }

    /** "as long as since it came": from COME on, not from the PUT DOWN. */
    private static void putDownAsLongAsSinceItCame() {
        Supplier<MendHall> made = made("hall 30 6;sort 0 0;mender;skill 0 0 20;thing 0 2 1 0", x -> {
            Due.minutes(x, 3);
            x.give(0, 0);
        });
        MendHall x = made.get();
        Due.minutes(x, 4);
        x.putDown(0);
        DUE.is("till minute 8", x.waits(0), 6);
        x.minute();
        DUE.is("WAIT less 1", x.thing(0, 4), 1);
        x.minute();
        DUE.is("WAIT", x.thing(0, 4), 4);
        MendHall y = made.get();
        Due.minutes(y, 9);
        y.putDown(0);
        DUE.is("longer than WAIT already", y.waits(0), 10);
        DUE.is("it waits up to the next MINUTE", y.thing(0, 4), 1);
        DUE.is("and can be GIVEN up to it", y.give(0, 0), 20);
        y.undo();
        y.minute();
        DUE.is("gone", y.thing(0, 4), 4);
    }

    private static void putDownAPartIsNotHadBack() {
        MendHall x = made("hall 30 6;sort 0 2;mender;skill 0 0 20;thing 0 0 1 1", y -> {
            y.minute();
            y.give(0, 0);
        }).get();
        x.putDown(0);
        DUE.is("one of two", x.sort(0, 1), 1);
        DUE.is("it NEEDS another", x.give(0, 0), 20);
        x.putDown(0);
        DUE.is("none", x.sort(0, 1), 0);
        DUE.is("without a part", x.give(0, 0), -1);
        x.bring(0);
        DUE.is("with one", x.give(0, 0), 20);
    }

    private static void noBring(String why, Supplier<MendHall> made, int sort) {
        BOUNDS.refused("bring(" + sort + "), " + why, made, x -> x.bring(sort), -1);
    }

    /** "BRING (a SORT has a part more"; promise 13: "NONE .. without that SORT" */
    private static void bringASort() {
        Supplier<MendHall> made = made("hall 9 9;sort 1 0;sort 2 9;sort 3 5", MendHall::minute);
        MendHall x = made.get();
        DUE.is("the first", x.bring(0), 1);
        DUE.is("the last", x.bring(2), 6);
        DUE.is("no other", x.sort(1, 1), 9);
        DUE.is("ACTS", x.count(14), 3);
        noBring("there are 3", made, 3);
        noBring("there are 4 at most", made, 4);
        for (int bad : NO_NUMBERS) {
            noBring("none such", made, bad);
        }
        noBring("without a HALL", MendHall::new, 0);
        noBring("without SORTS", made("hall 9 9;mender", y -> { }), 0);
    }

    private static void bring99AtMost() {
        Supplier<MendHall> made = made("hall 9 9;sort 0 9;sort 0 8", x -> {
            for (int n = 10; n < 99; n++) {
                x.bring(0);
            }
        });
        MendHall x = made.get();
        DUE.is("98", x.sort(0, 1), 98);
        DUE.is("99", x.bring(0), 99);
        DUE.is("no more", x.bring(0), -1);
        DUE.is("of the other SORT", x.bring(1), 9);
        noBring("99", () -> {
            MendHall y = made.get();
            y.bring(0);
            return y;
        }, 0);
        x.undo();
        x.undo();
        DUE.is("98 again", x.bring(0), 99);
    }

    private static void noCoffee(String why, Supplier<MendHall> made, int mender, int minutes) {
        BOUNDS.refused("coffee(" + mender + ", " + minutes + "), " + why, made,
                x -> x.coffee(mender, minutes), -1);
    }

    private static Supplier<MendHall> three(Consumer<MendHall> lived) {
        return made("hall 30 30;sort 0 0;mender;mender;mender;skill 1 0 3;thing 0 0 1 0", x -> {
            x.minute();
            lived.accept(x);
        });
    }

    /** "COFFEE (a MENDER who is free" */
    private static void coffeeAMenderWhoIsFree() {
        Supplier<MendHall> made = three(x -> x.give(1, 0));
        DUE.is("the first", made.get().coffee(0, 1), 1);
        DUE.is("the last", made.get().coffee(2, 1), 1);
        noCoffee("who mends", made, 1, 1);
        noCoffee("there are 3", made, 3, 1);
        noCoffee("there are 4 at most", made, 4, 1);
        for (int bad : NO_NUMBERS) {
            noCoffee("none such", made, bad, 1);
        }
        noCoffee("without a HALL", MendHall::new, 0, 1);
        MendHall x = made.get();
        Due.minutes(x, 2);
        DUE.is("1 minute to go", x.coffee(1, 1), -1);
        x.minute();
        DUE.is("free again", x.coffee(1, 1), 1);
    }

    /** "and not at it": up to its last minute, mending or not. */
    private static void coffeeNotAtIt() {
        Supplier<MendHall> made = three(x -> x.coffee(0, 2));
        noCoffee("at it", made, 0, 1);
        noCoffee("at it", made, 0, 60);
        MendHall x = made.get();
        x.minute();
        DUE.is("the last minute of it", x.mender(0, 2), 1);
        DUE.is("at it", x.coffee(0, 1), -1);
        x.minute();
        DUE.is("it is over", x.mender(0, 2), 0);
        DUE.is("not at it", x.coffee(0, 1), 1);
        noCoffee("at it, and mends", three(y -> {
            y.coffee(1, 9);
            y.give(1, 0);
        }), 1, 1);
        noCoffee("at it, and has put down", three(y -> {
            y.coffee(1, 9);
            y.give(1, 0);
            y.putDown(1);
        }), 1, 1);
    }

    private static void coffee1To60() {
        Supplier<MendHall> made = three(x -> { });
        for (int minutes : new int[] {1, 2, 59, 60}) {
            MendHall x = made.get();
            DUE.is("coffee(0, " + minutes + ")", x.coffee(0, minutes), 1);
            DUE.is("mender(0, 2)", x.mender(0, 2), minutes);
            DUE.is("an ACT", x.count(14), 2);
        }
        for (int bad : new int[] {0, -1, 61, 62, Integer.MAX_VALUE, Integer.MIN_VALUE}) {
            noCoffee("1 to 60", made, 0, bad);
        }
    }

    /** Promise 14: "how many are at it then": 1 to 4. */
    private static void coffeeHowMany() {
        MendHall x = made("hall 30 30;mender;mender;mender;mender", y -> { }).get();
        DUE.is("one", x.coffee(3, 60), 1);
        DUE.is("two", x.coffee(0, 1), 2);
        DUE.is("three", x.coffee(2, 2), 3);
        DUE.is("all", x.coffee(1, 5), 4);
        x.minute();
        DUE.is("one has done", x.coffee(0, 1), 4);
        Due.minutes(x, 1);
        DUE.is("two have done", x.coffee(2, 1), 3);
    }

    /** "The last 20 ACTS can be UNDONE" */
    private static void undoTheLast20() {
        for (int acts : new int[] {1, 19, 20, 21, 40, 41}) {
            MendHall x = made("hall 99 9;sort 0 0", y -> Due.minutes(y, acts)).get();
            int can = Math.min(acts, 20);
            DUE.is("count(14) behind " + acts, x.count(14), can);
            for (int n = can - 1; n >= 0; n--) {
                DUE.is("undo()", x.undo(), n);
                DUE.is("count(14)", x.count(14), n);
                DUE.is("the minute", x.count(7), acts - can + n);
            }
            DUE.is("none can", x.undo(), -2);
            DUE.is("the minute", x.count(7), acts - can);
        }
        // as many as before by the next ACTS, and none of those UNDONE
        MendHall y = made("hall 99 9;sort 0 0", z -> Due.minutes(z, 30)).get();
        for (int n = 0; n < 20; n++) {
            y.undo();
        }
        y.bring(0);
        DUE.is("one", y.count(14), 1);
        Due.minutes(y, 19);
        DUE.is("20", y.count(14), 20);
        Due.minutes(y, 1);
        DUE.is("20", y.count(14), 20);
        for (int n = 0; n < 20; n++) {
            y.undo();
        }
        DUE.is("the BRING was the 21st last", y.sort(0, 1), 1);
        DUE.is("the minute", y.count(7), 10);
        DUE.is("none can", y.undo(), -2);
    }

    /** "the last first" */
    private static void undoTheLastFirst() {
        MendHall x = made("hall 30 30;sort 0 0;mender;skill 0 0 9;thing 0 0 1 0", y -> {
            y.minute();
            y.give(0, 0);
            y.putDown(0);
            y.coffee(0, 9);
            y.bring(0);
        }).get();
        DUE.is("BRING", x.undo() * 10 + x.sort(0, 1), 40);
        DUE.is("COFFEE is", x.mender(0, 2), 9);
        DUE.is("COFFEE", x.undo() * 10 + x.mender(0, 2), 30);
        DUE.is("PUT DOWN is", x.mender(0, 0), -1);
        DUE.is("PUT DOWN", x.undo() * 10 + x.mender(0, 0), 20);
        DUE.is("to go", x.mender(0, 1), 9);
        DUE.is("GIVE", x.undo() * 10 + x.mender(0, 0), 9);
        DUE.is("MINUTE is", x.count(7), 1);
        DUE.is("MINUTE", x.undo() * 10 + x.count(7), 0);
        DUE.is("has not come", x.thing(0, 4), 0);
    }

    /** Promise 15: "-2, and nothing happens: none can" */
    private static void undoNoneCanBe() {
        BOUNDS.refused("undo() without a HALL", MendHall::new, MendHall::undo, -2);
        BOUNDS.refused("undo() without ACTS", made(Lived.HALL, x -> { }), MendHall::undo, -2);
        BOUNDS.refused("undo() behind 20", () -> {
            MendHall x = Lived.full();
            for (int n = 0; n < 20; n++) {
                x.undo();
            }
            return x;
        }, MendHall::undo, -2);
        BOUNDS.refused("undo() behind hall()", () -> {
            MendHall x = Lived.full();
            Due.hall(x, Lived.HALL);
            return x;
        }, MendHall::undo, -2);
    }

    private static void undoIsNoAct() {
        MendHall x = Lived.midday();
        int acts = x.count(14);
        DUE.is("undo()", x.undo(), acts - 1);
        DUE.is("undo() of the one before", x.undo(), acts - 2);
        DUE.is("the minute", x.count(7), 5);
    }

    /** Each ACT UNDONE: all is as it was. */
    private static void undoOfEachAct() {
        Supplier<MendHall> made = () -> {
            MendHall x = Lived.midday();
            x.force(-1);
            return x;
        };
        acted("minute()", made, MendHall::minute);
        acted("give(0, 5)", () -> {
            MendHall x = Due.open("hall 9 9;sort 0 3;mender;skill 0 0 3;thing 0 0 1 1", "take 0");
            x.force(0);
            x.minute();
            return x;
        }, x -> x.give(0, 0));
        acted("putDown(1)", made, x -> x.putDown(1));
        acted("bring(0)", made, x -> x.bring(0));
        acted("coffee(0, 60)", made, x -> x.coffee(0, 60));
    }

    private static void acted(String call, Supplier<MendHall> made, Consumer<MendHall> act) {
        MendHall x = made.get();
        int acts = x.count(14);
        act.accept(x);
        DUE.is(call + " is an ACT", x.count(14), acts + 1);
        BOUNDS.alike("undo() of " + call, made, y -> {
            act.accept(y);
            y.undo();
        }, y -> { });
    }

    /** What is forced, told, booked, seeded, fed or imaged is no ACT, and stays by undo(). */
    private static void noActIsNotUndone() {
        MendHall x = Lived.midday();
        int acts = x.count(14);
        x.force(1);
        x.end(0);
        x.feed(1, 2, 3, 4, 5);
        x.seed(5);
        x.book(1, 1, 1);
        x.image(0);
        DUE.is("no ACTS", x.count(14), acts);
        x.undo();
        DUE.is("the RULE IN FORCE stays", x.count(6), 1);
        DUE.is("the TAPE stays", x.count(16), 20);
        DUE.is("x stays", x.count(15), 5);
        DUE.is("BOOKS stay", x.count(13), 3);
        DUE.is("the IMAGE stays", x.back(0), 7);
        Due.rule(x, "take 5");
        x.undo();
        DUE.is("RULES stay", x.count(5), 4);
    }
}
