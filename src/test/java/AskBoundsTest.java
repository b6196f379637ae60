import java.util.function.Supplier;
import java.util.function.ToIntFunction;

/** The bounds of what is asked (part III up to the BOOKS, and promises 16 to 25), sentence by sentence. */
public final class AskBoundsTest {
    private static final Due DUE = new Due("AskBoundsTest");
    private static final Bounds BOUNDS = new Bounds(DUE);
    private static final int[] NO_NUMBERS = {-1, -2, -3, 7, 8, 100, Integer.MAX_VALUE, Integer.MIN_VALUE};

    public static void main(String[] args) {
        nothingChanges();
        aheadOf0To400();
        aheadOfAThing();
        aheadOfAMender();
        aheadOfNoNumber();
        done();
        waits();
        takeOfAMenderWhoIsFree();
        takeOfSeveralNone();
        takeOfSeveralTheLeast();
        matchWhat0To5();
        matchOfThoseWhoAreFree();
        matchEachOneAtMost();
        matchPartsForAllTogether();
        matchOfSeveral();
        swapWhat0To2();
        swapOfTwoWhoMend();
        swapIfAbove0();
        swapOfSeveral();
        partWhat0To1();
        partOfSeveral();
        askInWhat0To1();
        askInFewerThan4();
        askInTenMinutes();
        lateOfASort();
        lateFromNowOn();
        lateUpToEnd();
        lateBehindAllOthers();
        lateFewerThan7();
        idle();
        DUE.finish();
    }

    private static MendHall forced(MendHall x) {
        x.force(0);
        return x;
    }

    private static void refused(String call, ToIntFunction<MendHall> called, int want) {
        BOUNDS.refused(call, Lived::midday, called, want);
    }

    private static void withoutHall(String call, ToIntFunction<MendHall> called, int want) {
        BOUNDS.refused(call + " without a HALL", MendHall::new, called, want);
    }

    /**
     * "(By what is asked nothing changes". From midday on RULE 2 takes what comes up to minute 14 alone, and
     * THING 0 is MENDED in 9, THING 1 goes in 10, 5 is in work from 10 to 13, 4 goes in 11, and 3 in 24.
     */
    private static void nothingChanges() {
        asked("ahead(1, 400, 0)", x -> x.ahead(1, 400, 0), 4);
        asked("ahead(1, 2, 1)", x -> x.ahead(1, 2, 1), 0);
        asked("ahead(1, 400, 2)", x -> x.ahead(1, 400, 2), 9 + 7 + 4);
        asked("done(0)", x -> x.done(0), 9);
        asked("waits(3)", x -> x.waits(3), 4);
        asked("take(0, 0)", x -> x.take(0, 0), -1);
        asked("match(0)", x -> x.match(0), 5);
        asked("swap(0)", x -> x.swap(0), -2);
        asked("part(0)", x -> x.part(0), 1);
        asked("askIn(0)", x -> x.askIn(0), 1);
        asked("late(0)", x -> x.late(0), 14);
        asked("idle(1)", x -> x.idle(1), 10);
        asked("ruled(0)", x -> x.ruled(0), 3);
        asked("look(9, 0)", x -> x.look(9, 0), 0);
        asked("saturdays(1, 0, 0)", x -> x.saturdays(1, 0, 0), 7 + 9 + 5 + 4);
        asked("saturdays(1, 0, 1)", x -> x.saturdays(1, 0, 1), 2);
    }

    private static void asked(String call, ToIntFunction<MendHall> called, int want) {
        BOUNDS.asked(call, Lived::midday, called, want);
    }

    /** "AHEAD n MINUTES (0 to 400)" */
    private static void aheadOf0To400() {
        for (int what = 0; what < 3; what++) {
            int w = what;
            for (int bad : new int[] {-1, 401, 402, Integer.MAX_VALUE, Integer.MIN_VALUE}) {
                refused("ahead(0, " + bad + ", " + w + ")", x -> x.ahead(0, bad, w), -2);
            }
            withoutHall("ahead(0, 0, " + w + ")", x -> x.ahead(0, 0, w), -2);
        }
        for (int bad : new int[] {-1, 3, 4, Integer.MAX_VALUE, Integer.MIN_VALUE}) {
            refused("ahead(0, 5, " + bad + ")", x -> x.ahead(0, 5, bad), -2);
        }
        MendHall x = Lived.midday();
        for (int thing = 0; thing < 6; thing++) {
            DUE.is("in 0", x.ahead(thing, 0, 0), x.thing(thing, 4));
        }
        for (int mender = 0; mender < 3; mender++) {
            DUE.is("in 0", x.ahead(mender, 0, 1), x.mender(mender, 0));
        }
        DUE.is("in 0", x.ahead(0, 0, 2), 9);
        // from minute 0 on 400 MINUTES are enough to see all, up to the last
        MendHall y = Due.open("hall 300 300;sort 9 0;mender;skill 0 0 60;thing 0 299 5 0");
        DUE.is("in work", y.ahead(0, 367, 0), 2);
        DUE.is("who mends", y.ahead(0, 367, 1), 0);
        DUE.is("MENDED", y.ahead(0, 368, 0), 3);
        DUE.is("MENDED", y.ahead(0, 400, 0), 3);
        DUE.is("SAVED", y.ahead(0, 367, 2), 0);
        DUE.is("SAVED", y.ahead(0, 400, 2), 5);
    }

    /** "how a THING is (0 has not come, 1 waits, 2 in work, 3 MENDED, 4 gone)" */
    private static void aheadOfAThing() {
        MendHall x = Due.open("hall 9 3;sort 0 0;mender;skill 0 0 2;thing 0 1 5 0;thing 0 1 4 0;"
                + "thing 0 1 3 0");
        int[][] hows = {{0, 0, 2, 3, 3, 3}, {0, 0, 1, 1, 2, 3}, {0, 0, 1, 1, 1, 4}};
        for (int thing = 0; thing < 3; thing++) {
            for (int n = 0; n < 6; n++) {
                DUE.is("thing " + thing + " in " + n, x.ahead(thing, n, 0), hows[thing][n]);
            }
        }
        for (int bad : NO_NUMBERS) {
            refused("ahead(" + bad + ", 1, 0)", y -> y.ahead(bad, 1, 0), -2);
        }
        refused("ahead(6, 1, 0)", y -> y.ahead(6, 1, 0), -2);
        DUE.is("the last", Lived.midday().ahead(5, 0, 0), 1);
    }

    private static void aheadOfAMender() {
        for (int bad : NO_NUMBERS) {
            refused("ahead(" + bad + ", 1, 1)", y -> y.ahead(bad, 1, 1), -2);
        }
        refused("ahead(3, 1, 1)", y -> y.ahead(3, 1, 1), -2);
        DUE.is("the last", Lived.midday().ahead(2, 0, 1), -1);
        DUE.is("of none", Due.open("hall 9 9;sort 0 0;thing 0 0 1 0").ahead(0, 1, 1), -2);
    }

    /** "2: SAVED (of no number)" */
    private static void aheadOfNoNumber() {
        MendHall x = Lived.midday();
        for (int any : NO_NUMBERS) {
            DUE.is("ahead(" + any + ", 0, 2)", x.ahead(any, 0, 2), 9);
            DUE.is("ahead(" + any + ", 3, 2)", x.ahead(any, 3, 2), 16);
        }
        DUE.is("without THINGS and MENDERS", Due.open("hall 9 9").ahead(0, 400, 2), 0);
    }

    /** "DONE of a THING: the minute in which it is MENDED, in 400 MINUTES" */
    private static void done() {
        MendHall x = Lived.midday();
        DUE.is("in work", x.done(0), 9);
        DUE.is("MENDED already", x.done(2), 3);
        DUE.is("goes", x.done(1), -2);
        DUE.is("comes, and goes by RULE 2", x.done(3), -2);
        x.force(-1);
        DUE.is("comes, and is MENDED by none", x.done(3), 23);
        Due.minutes(x, 3);
        DUE.is("MENDED meanwhile", x.done(0), 9);
        Due.minutes(x, 20);
        DUE.is("gone", x.done(1), -2);
        DUE.is("MENDED meanwhile", x.done(0), 9);
        refused("done(6)", y -> y.done(6), -1);
        for (int bad : NO_NUMBERS) {
            refused("done(" + bad + ")", y -> y.done(bad), -1);
        }
        withoutHall("done(0)", y -> y.done(0), -1);
        MendHall y = Due.open("hall 300 300;sort 9 0;sort 0 0;mender;skill 0 0 60;skill 0 1 1;"
                + "thing 0 299 1 0;thing 1 0 1 0");
        DUE.is("the last that can be", y.done(0), 367);
        DUE.is("in minute 0", y.done(1), 0);
    }

    /** "WAITS of a THING that has not come, or waits: how many minutes from COME till it is taken, or goes" */
    private static void waits() {
        MendHall x = forced(Due.open("hall 30 7;sort 0 0;sort 0 0;mender;skill 0 0 2;skill 0 1 1;"
                + "thing 0 3 1 0;thing 0 3 1 0;thing 1 28 1 0;thing 1 30 1 0;thing 0 4 1 0;thing 1 29 1 0",
                "take 1 if thing=2 or thing=5 or left<22;take 0"));
        DUE.is("taken", x.waits(0), 6);
        DUE.is("goes at WAIT", x.waits(1), 7);
        DUE.is("taken at once", x.waits(2), 0);
        DUE.is("goes at once, at END", x.waits(3), 0);
        DUE.is("goes at WAIT", x.waits(4), 7);
        DUE.is("taken in END less 1", x.waits(5), 0);
        Due.minutes(x, 4);
        DUE.is("it waits", x.waits(0), 6);
        Due.minutes(x, 5);
        DUE.is("the last minute it waits in", x.waits(0), 6);
        x.minute();
        DUE.is("in work", x.waits(0), -1);
        x.minute();
        DUE.is("MENDED", x.waits(0), -1);
        DUE.is("gone", x.waits(1), -1);
        MendHall y = Due.open("hall 300 300;sort 0 0;thing 0 0 1 0;thing 0 1 1 0");
        DUE.is("300", y.waits(0), 300);
        DUE.is("299", y.waits(1), 299);
        refused("waits(6)", z -> z.waits(6), -1);
        refused("waits(0), in work", z -> z.waits(0), -1);
        refused("waits(2), MENDED", z -> z.waits(2), -1);
        BOUNDS.refused("waits(1), gone", () -> {
            MendHall z = Lived.midday();
            Due.minutes(z, 20);
            return z;
        }, z -> z.waits(1), -1);
        for (int bad : NO_NUMBERS) {
            refused("waits(" + bad + ")", z -> z.waits(bad), -1);
        }
        withoutHall("waits(0)", z -> z.waits(0), -1);
    }

    private static void takeOfAMenderWhoIsFree() {
        for (int what = 0; what < 2; what++) {
            int w = what;
            refused("take(1, " + w + "), who mends", x -> x.take(1, w), -2);
            refused("take(3, " + w + ")", x -> x.take(3, w), -2);
            for (int bad : NO_NUMBERS) {
                refused("take(" + bad + ", " + w + ")", x -> x.take(bad, w), -2);
            }
            withoutHall("take(0, " + w + ")", x -> x.take(0, w), -2);
        }
        for (int bad : new int[] {-1, 2, 3, Integer.MAX_VALUE, Integer.MIN_VALUE}) {
            refused("take(0, " + bad + ")", x -> x.take(0, bad), -2);
        }
        MendHall x = Lived.midday();
        DUE.is("the first", x.take(0, 1), 20);
        DUE.is("the last, at COFFEE", x.take(2, 0), 1);
        DUE.is("the last, at COFFEE", x.take(2, 1), 25);
    }

    /** "or none, .. of several none" */
    private static void takeOfSeveralNone() {
        MendHall x = Due.open("hall 30 30;sort 0 0;mender;skill 0 0 3;thing 0 0 1 0;thing 0 0 1 0");
        x.coffee(0, 1);
        x.minute();
        DUE.is("both are MENDED anyhow", x.take(0, 0), -1);
        DUE.is("how much", x.take(0, 1), 2);
        MendHall none = Due.open("hall 30 30;sort 0 0;sort 0 0;mender;skill 0 0 3;thing 1 0 9 0");
        none.minute();
        DUE.is("there is none they can take", none.take(0, 0), -1);
        DUE.is("how much", none.take(0, 1), 0);
        // to take any is worse than none: the better one comes in a minute, and waits a minute alone
        MendHall y = forced(Due.open("hall 30 1;sort 0 0;mender;skill 0 0 3;thing 0 0 1 0;thing 0 1 2 0",
                "take worth-1"));
        y.minute();
        DUE.is("none", y.take(0, 0), -1);
        DUE.is("how much", y.take(0, 1), 2);
    }

    /** "then the least" */
    private static void takeOfSeveralTheLeast() {
        MendHall x = forced(Due.open("hall 30 2;sort 0 0;mender;skill 0 0 3;thing 0 0 1 0;thing 0 0 2 0;"
                + "thing 0 0 2 0", "take 0"));
        x.minute();
        DUE.is("1 and 2 are worth 2", x.take(0, 0), 1);
        DUE.is("how much", x.take(0, 1), 2);
        // 1 more than none is enough
        MendHall y = forced(Due.open("hall 9 9;sort 0 0;mender;skill 0 0 9;thing 0 0 5 0;thing 0 0 6 0",
                "take 7-worth"));
        y.coffee(0, 1);
        y.minute();
        DUE.is("6 by one more than 5", y.take(0, 0), 1);
        DUE.is("how much", y.take(0, 1), 6);
    }

    private static void matchWhat0To5() {
        for (int bad : new int[] {-1, -2, 6, 7, Integer.MAX_VALUE, Integer.MIN_VALUE}) {
            refused("match(" + bad + ")", x -> x.match(bad), -3);
            withoutHall("match(" + bad + ")", x -> x.match(bad), -3);
        }
        for (int what = 0; what < 6; what++) {
            int w = what;
            withoutHall("match(" + w + ")", x -> x.match(w), -3);
        }
        // MENDER 0 is free and can take none, MENDER 1 mends, MENDER 2 is at COFFEE, there is no fourth
        refused("match(2), none", x -> x.match(2), -1);
        refused("match(3), not free", x -> x.match(3), -2);
        refused("match(5), none such", x -> x.match(5), -2);
        BOUNDS.asked("match(4)", Lived::midday, x -> x.match(4), 1);
        row("no THINGS, no MENDERS", Due.open("hall 9 9"), 0, 0, -2, -2, -2, -2);
        row("no THINGS", Due.open("hall 9 9;mender;mender;mender;mender"), 0, 0, -1, -1, -1, -1);
    }

    private static void row(String what, MendHall x, int... want) {
        for (int i = 0; i < 6; i++) {
            DUE.is(what + ", match(" + i + ")", x.match(i), want[i]);
        }
    }

    /** A hall in which nothing is taken but by hand, behind its minute 0. */
    private static MendHall still(String hall) {
        MendHall x = forced(Due.open("hall 30 30;" + hall, "take 0"));
        x.minute();
        return x;
    }

    /** "THINGS that wait for MENDERS who are free (at COFFEE or not)" */
    private static void matchOfThoseWhoAreFree() {
        MendHall x = still("sort 0 0;mender;mender;skill 0 0 5;skill 1 0 6;thing 0 0 9 0;thing 0 1 8 0;"
                + "thing 0 0 7 0");
        row("0 and 2 wait", x, 16, 11, 0, 2, -2, -2);
        x.minute();
        row("1 waits, too", x, 17, 11, 0, 1, -2, -2);
        x.coffee(0, 60);
        row("at COFFEE", x, 17, 11, 0, 1, -2, -2);
        x.give(1, 0);
        row("not free", x, 8, 5, 1, -2, -2, -2);
        x.give(0, 1);
        row("none is free", x, 0, 0, -2, -2, -2, -2);
        Due.minutes(x, 29);
        row("none waits at END", x, 0, 0, -1, -1, -2, -2);
    }

    /** "each one at most": no THING for two, no two for a MENDER. */
    private static void matchEachOneAtMost() {
        row("one THING", still("sort 0 0;mender;mender;mender;mender;skill 0 0 5;skill 1 0 5;skill 2 0 5;"
                + "skill 3 0 4;thing 0 0 9 0"), 9, 4, -1, -1, -1, 0);
        row("one MENDER", still("sort 0 0;mender;skill 0 0 5;thing 0 0 9 0;thing 0 0 9 0"),
                9, 5, 0, -2, -2, -2);
        row("four MENDERS, seven THINGS", still("sort 0 0;mender;mender;mender;mender;skill 0 0 5;"
                + "skill 1 0 5;skill 2 0 5;skill 3 0 5" + ";thing 0 0 30 0".repeat(7)),
                120, 20, 0, 1, 2, 3);
    }

    private static void matchPartsForAllTogether() {
        String hall = "sort 0 #;mender;mender;skill 0 0 5;skill 1 0 6;thing 0 0 9 1;thing 0 0 8 1;"
                + "thing 0 0 1 0";
        row("no part", still(hall.replace("#", "0")), 1, 5, 2, -1, -2, -2);
        row("one part", still(hall.replace("#", "1")), 10, 11, 0, 2, -2, -2);
        row("two parts", still(hall.replace("#", "2")), 17, 11, 0, 1, -2, -2);
    }

    /** "of several MINUTES and LOOKS of all least, then the first row (none ahead of THING 0, ..)" */
    private static void matchOfSeveral() {
        row("the LOOK counts", still("sort 3 0;sort 1 0;mender;skill 0 0 5;skill 0 1 6;thing 0 0 9 0;"
                + "thing 1 0 9 0"), 9, 7, 1, -2, -2, -2);
        row("alike: none ahead of THING 0", still("sort 0 0;mender;mender;skill 0 0 5;skill 1 0 5;"
                + "thing 0 0 9 0"), 9, 5, -1, 0, -2, -2);
        row("alike: THING 0 ahead of 1", still("sort 0 0;mender;mender;skill 0 0 5;skill 1 0 5;"
                + "thing 0 0 9 0;thing 0 0 9 0"), 18, 10, 0, 1, -2, -2);
        row("MENDER 0 ahead of MENDER 1", still("sort 0 0;sort 0 0;mender;mender;skill 0 0 5;skill 0 1 6;"
                + "skill 1 0 6;skill 1 1 7;thing 1 0 9 0;thing 0 0 9 0"), 18, 12, 0, 1, -2, -2);
        row("fewer minutes by one", still("sort 0 0;sort 0 0;mender;mender;skill 0 0 5;skill 0 1 6;"
                + "skill 1 0 6;skill 1 1 8;thing 1 0 9 0;thing 0 0 9 0"), 18, 12, 0, 1, -2, -2);
        row("the other way", still("sort 0 0;sort 0 0;mender;mender;skill 0 0 5;skill 0 1 7;"
                + "skill 1 0 6;skill 1 1 7;thing 1 0 9 0;thing 0 0 9 0"), 18, 12, 1, 0, -2, -2);
        row("more WORTH by one, however long", still("sort 0 0;sort 9 0;mender;skill 0 0 1;skill 0 1 60;"
                + "thing 0 0 8 0;thing 1 0 9 0"), 9, 69, 1, -2, -2, -2);
    }

    private static void swapWhat0To2() {
        for (int bad : new int[] {-1, -2, 3, 4, Integer.MAX_VALUE, Integer.MIN_VALUE}) {
            refused("swap(" + bad + ")", x -> x.swap(bad), -1);
        }
        for (int what = 0; what < 3; what++) {
            int w = what;
            withoutHall("swap(" + w + ")", x -> x.swap(w), -1);
            refused("swap(" + w + "), none such", x -> x.swap(w), -2);
        }
    }

    /** The first mends THING 0 of SORT 0, the second THING 1 of SORT 1; these minutes have gone by. */
    private static MendHall mending(String skills, int minutes) {
        MendHall x = still("sort 0 0;sort 0 0;mender;mender;mender;" + skills + "thing 0 0 1 0;thing 1 0 1 0");
        x.give(0, 0);
        x.give(1, 1);
        Due.minutes(x, minutes);
        return x;
    }

    private static void swapped(String what, MendHall x, int less, int first, int second) {
        DUE.is(what, x.swap(0), less);
        DUE.is(what + ", the first", x.swap(1), first);
        DUE.is(what + ", the second", x.swap(2), second);
    }

    /** "of two MENDERS who mend, each with a skill for the SORT of the other one's THING" */
    private static void swapOfTwoWhoMend() {
        String all = "skill 0 0 30;skill 0 1 5;skill 1 0 6;skill 1 1 40;";
        swapped("both", mending(all, 0), 59, 0, 1);
        swapped("the first has none", mending("skill 0 0 30;skill 1 0 6;skill 1 1 40;", 0), -2, -2, -2);
        swapped("the second has none", mending("skill 0 0 30;skill 0 1 5;skill 1 1 40;", 0), -2, -2, -2);
        MendHall x = mending(all, 0);
        x.putDown(0);
        swapped("the first is free", x, -2, -2, -2);
        x.undo();
        swapped("both again", x, 59, 0, 1);
        x.putDown(1);
        swapped("the second is free", x, -2, -2, -2);
        x.give(2, 1);
        swapped("who has no skill can't be given it", x, -2, -2, -2);
        MendHall y = mending("skill 0 0 1;skill 0 1 1;skill 1 0 60;skill 1 1 60;", 0);
        y.minute();
        swapped("the first has MENDED", y, -2, -2, -2);
        // LOOK is had anew
        MendHall z = still("sort 7 0;sort 9 0;mender;mender;" + all + "thing 0 0 1 0;thing 1 0 1 0");
        z.give(0, 0);
        z.give(1, 1);
        swapped("LOOK and LOOK", z, 37 + 49 - 14 - 13, 0, 1);
        z.minute();
        swapped("in the next minute", z, 36 + 48 - 14 - 13, 0, 1);
    }

    /** "most, if above 0" */
    private static void swapIfAbove0() {
        String even = "skill 0 0 12;skill 0 1 10;skill 1 0 10;skill 1 1 12;";
        swapped("4", mending(even, 0), 4, 0, 1);
        swapped("2", mending(even, 1), 2, 0, 1);
        swapped("0", mending(even, 2), -2, -2, -2);
        swapped("less", mending(even, 3), -2, -2, -2);
        String odd = "skill 0 0 12;skill 0 1 10;skill 1 0 10;skill 1 1 13;";
        swapped("1", mending(odd, 2), 1, 0, 1);
        swapped("1 more", mending(odd, 3), -2, -2, -2);
    }

    /** "of several the least first, then second one" */
    private static void swapOfSeveral() {
        MendHall x = still("sort 0 0;sort 0 0;mender;mender;mender;mender;skill 0 0 1;skill 0 1 60;"
                + "skill 1 0 1;skill 1 1 60;skill 2 1 1;skill 2 0 60;skill 3 1 1;skill 3 0 60;"
                + "thing 1 0 1 0;thing 1 0 1 0;thing 0 0 1 0;thing 0 0 1 0");
        for (int mender = 0; mender < 4; mender++) {
            x.give(mender, mender);
        }
        swapped("0 with 2 or 3, 1 with 2 or 3", x, 118, 0, 2);
        x.putDown(2);
        swapped("0 with 3, 1 with 3", x, 118, 0, 3);
        x.putDown(0);
        swapped("1 with 3", x, 118, 1, 3);
        x.undo();
        x.undo();
        x.putDown(0);
        swapped("1 with 2 or 3", x, 118, 1, 2);
        x.putDown(1);
        swapped("of one SORT", x, -2, -2, -2);
    }

    private static void partWhat0To1() {
        for (int bad : new int[] {-1, -2, 2, 3, Integer.MAX_VALUE, Integer.MIN_VALUE}) {
            refused("part(" + bad + ")", x -> x.part(bad), -2);
        }
        withoutHall("part(0)", x -> x.part(0), -2);
        withoutHall("part(1)", x -> x.part(1), -2);
        MendHall four = Due.open("hall 9 9;sort 0 0;sort 0 0;sort 0 0;sort 0 0;mender;thing 3 0 9 1;"
                + "thing 0 0 9 0");
        DUE.is("4 SORTS, no skill", four.part(0), -1);
        DUE.is("how much", four.part(1), 0);
        DUE.is("without SORTS", Due.open("hall 9 9;mender").part(0), -1);
        DUE.is("without SORTS", Due.open("hall 9 9;mender").part(1), 0);
    }

    /** "of several none, then the least; how much" */
    private static void partOfSeveral() {
        String hall = "hall 30 30;sort 0 #;sort 0 #;sort 0 #;sort 0 #;mender;skill 0 0 3;skill 0 1 3;"
                + "skill 0 2 3;skill 0 3 3;";
        MendHall x = Due.open(hall.replace("#", "0") + "thing 3 0 9 1;thing 1 0 8 1;thing 2 0 9 1;"
                + "thing 0 0 1 0");
        DUE.is("2 and 3 are worth 9", x.part(0), 2);
        DUE.is("how much", x.part(1), 10);
        x.bring(2);
        DUE.is("the last SORT", x.part(0), 3);
        DUE.is("how much", x.part(1), 19);
        x.bring(3);
        x.bring(1);
        DUE.is("none NEEDS any", x.part(0), -1);
        DUE.is("how much", x.part(1), 27);
        DUE.is("one part is enough for each", Due.open(hall.replace("#", "1") + "thing 3 0 9 1;"
                + "thing 0 0 9 1").part(0), -1);
        DUE.is("by 1", Due.open(hall.replace("#", "0") + "thing 3 0 1 1;thing 0 0 5 0").part(0), 3);
    }

    private static void askInWhat0To1() {
        for (int bad : new int[] {-1, -2, 2, 3, Integer.MAX_VALUE, Integer.MIN_VALUE}) {
            refused("askIn(" + bad + ")", x -> x.askIn(bad), -2);
        }
        withoutHall("askIn(0)", x -> x.askIn(0), -2);
        withoutHall("askIn(1)", x -> x.askIn(1), -2);
        DUE.is("without SORTS", Due.open("hall 9 9;mender").askIn(0), -1);
        DUE.is("without SORTS", Due.open("hall 9 9;mender").askIn(1), 0);
    }

    /** "if there are fewer than 4"; "(as it is, if there are 4)" */
    private static void askInFewerThan4() {
        String things = ";sort 0 0;sort 0 0;sort 0 0;thing 2 0 3 0;thing 1 0 3 0;thing 0 0 2 0";
        for (int menders = 0; menders < 4; menders++) {
            MendHall x = Due.open("hall 30 30" + ";mender".repeat(menders) + things);
            DUE.is("the least of 1 and 2, of " + menders, x.askIn(0), 1);
            DUE.is("how much", x.askIn(1), 3);
        }
        MendHall x = Due.open("hall 30 30;mender;mender;mender;mender" + things + ";skill 3 0 9");
        DUE.is("4: none", x.askIn(0), -1);
        DUE.is("4: as it is", x.askIn(1), 2);
        MendHall y = Due.open("hall 30 30;mender;mender;mender" + things + ";skill 2 2 9;skill 1 1 9;"
                + "skill 0 0 1");
        DUE.is("of several none", y.askIn(0), -1);
        DUE.is("how much", y.askIn(1), 8);
    }

    /** "with a skill of 10 MINUTES for it alone": and LOOK. */
    private static void askInTenMinutes() {
        for (int look = 0; look < 2; look++) {
            String things = ";sort " + look + " 0;thing 0 0 3 0;thing 0 0 3 0";
            DUE.is("free again before WAIT", Due.open("hall 90 " + (11 + look) + things).askIn(1), 6);
            DUE.is("free again at WAIT", Due.open("hall 90 " + (10 + look) + things).askIn(1), 3);
        }
    }

    /** Promise 24: "NONE without that SORT" */
    private static void lateOfASort() {
        MendHall x = Due.open("hall 30 30;sort 0 0;sort 0 0;sort 0 0;mender;skill 0 2 60");
        DUE.is("no skill", x.late(0), -2);
        DUE.is("the last SORT", x.late(2), 29);
        refused("late(2)", y -> y.late(2), -1);
        refused("late(3)", y -> y.late(3), -1);
        refused("late(4)", y -> y.late(4), -1);
        for (int bad : NO_NUMBERS) {
            refused("late(" + bad + ")", y -> y.late(bad), -1);
        }
        withoutHall("late(0)", y -> y.late(0), -1);
    }

    /** "the last minute from now on" */
    private static void lateFromNowOn() {
        MendHall x = forced(Due.open("hall 30 1;sort 0 0;mender;skill 0 0 5", "take 1 if left=20"));
        Due.minutes(x, 10);
        DUE.is("now alone", x.late(0), 10);
        x.minute();
        DUE.is("a minute too late", x.late(0), -2);
        MendHall y = forced(Due.open("hall 30 2;sort 0 0;mender;skill 0 0 5", "take 1 if left=20"));
        Due.minutes(y, 10);
        DUE.is("now alone", y.late(0), 10);
        y.undo();
        DUE.is("this one, or the next", y.late(0), 10);
    }

    /** "(up to END)": in END itself who comes goes at once. */
    private static void lateUpToEnd() {
        for (int end : new int[] {1, 2, 299, 300}) {
            MendHall x = Due.open("hall " + end + " 1;sort 9 0;mender;skill 0 0 60");
            DUE.is("END less 1", x.late(0), end - 1);
            Due.minutes(x, end - 1);
            DUE.is("now", x.late(0), end - 1);
            x.minute();
            DUE.is("END is now", x.late(0), -2);
            x.minute();
            DUE.is("END is over", x.late(0), -2);
        }
    }

    /** "(WORTH 1, NEEDS none, behind all others)" */
    private static void lateBehindAllOthers() {
        String hall = "hall 30 30;sort 0 0;mender;skill 0 0 20;thing 0 15 1 0";
        DUE.is("it must be taken before", Due.open(hall).late(0), 14);
        DUE.is("NEEDS none", Due.open("hall 30 30;sort 0 0;mender;skill 0 0 20").late(0), 29);
        String[] rules = {"take 1 if thing=1", "take 1 if thing=0 and worth=9", "take 1 if worth=1 and needs=0",
            "take 1 if needs=1", "take worth-1"};
        int[] last = {29, -2, 29, -2, -2};
        for (int i = 0; i < rules.length; i++) {
            MendHall x = forced(Due.open("hall 30 30;sort 0 5;mender;skill 0 0 20;thing 0 29 3 1", rules[i]));
            DUE.is(rules[i], x.late(0), last[i]);
        }
    }

    /** "if there are fewer than 7 THINGS"; "-2: in none (or there are 7 THINGS)" */
    private static void lateFewerThan7() {
        String hall = "hall 30 30;sort 0 0;mender;skill 0 0 2";
        for (int things = 0; things < 7; things++) {
            DUE.is(things + " THINGS", Due.open(hall + ";thing 0 0 1 0".repeat(things)).late(0), 29);
        }
        Supplier<MendHall> seven = () -> Due.open(hall + ";thing 0 0 1 0".repeat(7));
        BOUNDS.refused("late(0) of 7", seven, x -> x.late(0), -2);
        BOUNDS.refused("late(1) of 7", seven, x -> x.late(1), -1);
        MendHall x = seven.get();
        Due.minutes(x, 20);
        DUE.is("7, and all are MENDED", x.count(10), 127);
        DUE.is("7 still", x.late(0), -2);
    }

    /** "IDLE of a MENDER: how many minutes they will have been idle at END, and those before." */
    private static void idle() {
        MendHall x = Due.open("hall 20 20;sort 0 0;mender;mender;skill 0 0 5;thing 0 3 1 0;thing 0 18 1 0");
        int[] idle = {13, 20};
        for (int n = 0; n < 24; n++) {
            for (int mender = 0; mender < 2; mender++) {
                DUE.is("idle(" + mender + ") in " + n, x.idle(mender), idle[mender]);
            }
            x.minute();
        }
        DUE.is("as many as so far, at END", x.mender(0, 3), 13);
        MendHall y = Due.open("hall 300 300;mender");
        DUE.is("at most", y.idle(0), 300);
        y.coffee(0, 60);
        DUE.is("at COFFEE, too", y.idle(0), 300);
        MendHall z = Due.open("hall 1 1;sort 0 0;mender;mender;skill 0 0 1;thing 0 0 1 0");
        DUE.is("at least", z.idle(0), 0);
        DUE.is("END 1", z.idle(1), 1);
        refused("idle(3)", w -> w.idle(3), -1);
        refused("idle(4)", w -> w.idle(4), -1);
        for (int bad : NO_NUMBERS) {
            refused("idle(" + bad + ")", w -> w.idle(bad), -1);
        }
        withoutHall("idle(0)", w -> w.idle(0), -1);
    }
}
