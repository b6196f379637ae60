/** Promises 19 (take), 20 (match), 21 (swap), 22 (part) and 23 (askIn). */
public final class ChoiceTest {
    private static final Due DUE = new Due("ChoiceTest");

    public static void main(String[] args) {
        take();
        takeAtCoffee();
        match();
        matchOfSeveral();
        swap();
        swapOfSeveral();
        part();
        askIn();
        guest();
        DUE.finish();
    }

    private static void take() {
        MendHall none = new MendHall();
        DUE.is("take() without a HALL", none.take(0, 0), -2);
        DUE.is("take() without a HALL", none.take(0, 1), -2);
        // one can be mended alone: the owners of the others go meanwhile
        MendHall x = Due.open("hall 10 5;sort 0 0;sort 1 0;mender;mender;skill 0 0 8;"
                + "thing 0 0 2 0;thing 0 0 9 0;thing 0 0 9 0;thing 0 0 30 1;thing 1 0 30 0");
        DUE.is("nothing waits yet", x.take(0, 0), -1);
        DUE.is("as it goes on", x.take(0, 1), 2);
        x.coffee(0, 1);
        x.minute();
        DUE.is("the least of the best", x.take(0, 0), 1);
        DUE.is("how much", x.take(0, 1), 9);
        DUE.is("who has no skill", x.take(1, 0), -1);
        DUE.is("as it goes on", x.take(1, 1), 2);
        DUE.is("nothing changes", x.count(14), 2);
        for (int[] bad : new int[][] {{-1, 0}, {2, 0}, {0, -1}, {0, 2}, {4, 1},
            {Integer.MAX_VALUE, 0}, {0, Integer.MIN_VALUE}}) {
            DUE.is("take(" + bad[0] + ", " + bad[1] + ")", x.take(bad[0], bad[1]), -2);
        }
        x.minute();
        DUE.is("not free", x.take(0, 0), -2);
        DUE.is("not free", x.take(0, 1), -2);
        // what the RULE takes anyhow is none; of several none
        MendHall y = Due.open("hall 10 5;sort 0 0;mender;skill 0 0 8;thing 0 0 2 0;thing 0 0 9 0",
                "take worth");
        y.force(0);
        y.coffee(0, 1);
        y.minute();
        DUE.is("none", y.take(0, 0), -1);
        DUE.is("how much", y.take(0, 1), 9);
        // what the MENDER would have taken later is another's then
        MendHall z = Due.open("hall 10 5;sort 0 0;sort 0 0;mender;mender;skill 0 0 8;skill 0 1 8;"
                + "skill 1 0 8;thing 0 0 5 0;thing 1 0 7 0");
        z.coffee(0, 1);
        z.coffee(1, 1);
        z.minute();
        DUE.is("MENDER 0 had best leave 0 to MENDER 1", z.take(0, 0), 1);
        DUE.is("how much", z.take(0, 1), 12);
        DUE.is("or MENDER 1 takes it now", z.take(1, 0), 0);
        DUE.is("how much", z.take(1, 1), 12);
    }

    private static void takeAtCoffee() {
        MendHall x = Due.open("hall 20 5;sort 0 1;mender;skill 0 0 8;thing 0 0 2 1;thing 0 0 9 1",
                "take 0");
        x.coffee(0, 60);
        x.minute();
        DUE.is("at COFFEE or not", x.take(0, 0), 1);
        DUE.is("how much", x.take(0, 1), 9);
        x.give(0, 1);
        DUE.is("SAVED", x.ahead(0, 400, 2), 9);
        x.undo();
        x.undo();
        x.undo();
        x.force(0);
        x.minute();
        DUE.is("the RULE takes none", x.take(0, 0), 1);
    }

    private static void row(String what, MendHall x, int... want) {
        for (int i = 0; i < want.length; i++) {
            DUE.is(what + ", match(" + i + ")", x.match(i), want[i]);
        }
    }

    private static void match() {
        MendHall none = new MendHall();
        for (int what = 0; what < 6; what++) {
            DUE.is("match() without a HALL", none.match(what), -3);
        }
        MendHall x = Due.open("hall 30 30;sort 1 1;sort 2 0;mender;mender;mender;skill 0 0 5;"
                + "skill 0 1 9;skill 1 0 4;thing 0 0 6 1;thing 0 0 7 1;thing 1 0 3 0;thing 1 0 9 1",
                "take 0");
        x.force(0);
        row("nothing waits", x, 0, 0, -1, -1, -1, -2);
        x.minute();
        // one part of SORT 0, none of SORT 1: THING 1 (7) and THING 2 (3); MENDER 1 has no SORT 1
        row("match", x, 10, 11 + 5, 2, 1, -1, -2);
        for (int bad : new int[] {-1, 6, Integer.MAX_VALUE, Integer.MIN_VALUE}) {
            DUE.is("match(" + bad + ")", x.match(bad), -3);
        }
        // two parts: MENDER 0 has THING 0 or 1
        x.bring(0);
        row("with a part more", x, 13, 6 + 5, 0, 1, -1, -2);
        x.bring(1);
        row("with one of the other SORT", x, 16, 11 + 5, 3, 1, -1, -2);
        x.coffee(1, 5);
        row("at COFFEE or not", x, 16, 11 + 5, 3, 1, -1, -2);
        x.give(0, 2);
        row("not free", x, 7, 5, -2, 1, -1, -2);
        DUE.is("nothing changes", x.count(8), 11);
        DUE.is("nothing changes", x.sort(0, 1), 2);
        // parts of each SORT by itself
        MendHall z = Due.open("hall 30 30;sort 0 1;sort 0 2;sort 0 1;mender;mender;mender;"
                + "skill 0 0 9;skill 0 1 1;skill 0 2 9;skill 1 0 9;skill 1 1 1;skill 1 2 9;"
                + "skill 2 1 1;thing 1 0 3 1;thing 1 0 4 1;thing 1 0 5 1;thing 0 0 1 1;thing 2 0 1 1",
                "take 0");
        z.force(0);
        z.minute();
        row("two of SORT 1 and one more", z, 10, 11, 1, 3, 2, -2);
        // four MENDERS, seven THINGS
        MendHall y = Due.open("hall 30 30;sort 0 0;mender;mender;mender;mender;skill 0 0 1;"
                + "skill 1 0 2;skill 2 0 3;skill 3 0 4;thing 0 0 1 0;thing 0 0 2 0;thing 0 0 3 0;"
                + "thing 0 0 4 0;thing 0 0 5 0;thing 0 0 6 0;thing 0 0 7 0", "take 0");
        y.force(0);
        y.minute();
        row("four of seven", y, 22, 10, 3, 4, 5, 6);
    }

    private static void matchOfSeveral() {
        // one THING: the MENDER of fewer minutes; of the same minutes none is ahead for MENDER 0
        MendHall x = Due.open("hall 30 30;sort 0 0;mender;mender;mender;skill 0 0 5;skill 1 0 4;"
                + "skill 2 0 4;thing 0 0 6 0", "take 0");
        x.force(0);
        x.minute();
        row("fewest minutes, first row", x, 6, 4, -1, -1, 0, -2);
        // the same two minutes crosswise: fewer in all
        MendHall y = Due.open("hall 30 30;sort 0 0;sort 5 0;mender;mender;skill 0 0 5;skill 0 1 1;"
                + "skill 1 0 4;skill 1 1 9;thing 0 0 6 0;thing 1 0 6 0", "take 0");
        y.force(0);
        y.minute();
        row("crosswise", y, 12, 6 + 4, 1, 0, -2, -2);
        // two THINGS alike: the first row has THING 0 for MENDER 0
        MendHall z = Due.open("hall 30 30;sort 0 0;mender;mender;skill 0 0 5;skill 1 0 5;"
                + "thing 0 0 6 0;thing 0 0 6 0;thing 0 0 6 0", "take 0");
        z.force(0);
        z.minute();
        row("the first row", z, 12, 10, 0, 1, -2, -2);
        // WORTH is ahead of minutes
        MendHall w = Due.open("hall 30 30;sort 0 0;sort 9 0;mender;skill 0 0 1;skill 0 1 60;"
                + "thing 0 0 6 0;thing 1 0 7 0", "take 0");
        w.force(0);
        w.minute();
        row("WORTH", w, 7, 69, 1, -2, -2, -2);
    }

    private static void swap() {
        MendHall none = new MendHall();
        for (int what = 0; what < 3; what++) {
            DUE.is("swap() without a HALL", none.swap(what), -1);
        }
        MendHall x = Due.open("hall 30 30;sort 1 0;sort 4 0;mender;mender;skill 0 0 20;skill 0 1 2;"
                + "skill 1 0 3;skill 1 1 30;thing 0 0 6 0;thing 1 0 6 0");
        DUE.is("none mends", x.swap(0), -2);
        DUE.is("none mends", x.swap(1), -2);
        DUE.is("none mends", x.swap(2), -2);
        x.minute();
        // 20 + 33 minutes to go still; changed 2 + 4 and 3 + 1
        DUE.is("MENDER 0 has THING 0", x.mender(0, 0), 0);
        DUE.is("minutes less", x.swap(0), 43);
        DUE.is("the first", x.swap(1), 0);
        DUE.is("the second", x.swap(2), 1);
        x.minute();
        DUE.is("two minutes less in each MINUTE", x.swap(0), 41);
        DUE.is("nothing changes", x.mender(0, 0), 0);
        for (int bad : new int[] {-1, 3, Integer.MAX_VALUE, Integer.MIN_VALUE}) {
            DUE.is("swap(" + bad + ")", x.swap(bad), -1);
        }
        Due.minutes(x, 18);
        // THING 0 has 1 minute to go, THING 1 has 14
        DUE.is("5", x.swap(0), 1 + 14 - 10);
        x.putDown(1);
        DUE.is("one mends alone", x.swap(0), -2);
        x.undo();
        x.minute();
        DUE.is("one mends alone", x.swap(0), -2);
        // above 0 alone; each needs a skill for the other one's
        MendHall y = Due.open("hall 30 30;sort 1 0;sort 4 0;mender;mender;skill 0 0 9;skill 0 1 9;"
                + "skill 1 0 9;skill 1 1 9;thing 0 0 6 0;thing 1 0 6 0");
        y.minute();
        DUE.is("2 minutes more", y.swap(0), -2);
        DUE.is("2 minutes more", y.swap(1), -2);
        MendHall z = Due.open("hall 30 30;sort 0 0;sort 0 0;mender;mender;skill 0 0 60;skill 0 1 1;"
                + "skill 1 1 60;thing 0 0 6 0;thing 1 0 6 0");
        z.minute();
        DUE.is("no skill", z.swap(0), -2);
        DUE.is("no skill", z.swap(2), -2);
        // a skill of 1 minute, and MENDERS behind one who is free
        MendHall v = Due.open("hall 30 30;sort 0 0;sort 0 0;mender;mender;mender;skill 1 0 9;"
                + "skill 1 1 1;skill 2 0 1;skill 2 1 9;thing 0 0 6 0;thing 1 0 6 0");
        v.minute();
        DUE.is("8 and 8 to go, changed 2", v.swap(0), 14);
        DUE.is("first", v.swap(1), 1);
        DUE.is("second", v.swap(2), 2);
        // just 0 and just 1: 10 and 10 to go behind one MINUTE, changed 20, then 19
        MendHall w = Due.open("hall 30 30;sort 0 0;sort 0 0;mender;mender;skill 0 0 11;skill 0 1 9;"
                + "skill 1 0 11;skill 1 1 11;thing 0 0 6 0;thing 1 0 6 0");
        w.minute();
        DUE.is("0 minutes", w.swap(0), -2);
        Due.hall(w, "hall 30 30;sort 0 0;sort 0 0;mender;mender;skill 0 0 11;skill 0 1 8;"
                + "skill 1 0 11;skill 1 1 11;thing 0 0 6 0;thing 1 0 6 0");
        w.minute();
        DUE.is("1 minute", w.swap(0), 1);
    }

    private static void swapOfSeveral() {
        // all four alike: each pair of a SORT 0 and a SORT 1 has the same; the least first, second
        String sorts = "hall 30 30;sort 0 0;sort 0 0;mender;mender;mender;mender;";
        String skills = "skill 0 0 9;skill 0 1 40;skill 1 0 9;skill 1 1 40;skill 2 0 40;skill 2 1 9;"
                + "skill 3 0 40;skill 3 1 9;";
        MendHall x = Due.open(sorts + skills + "thing 1 0 1 0;thing 1 0 1 0;thing 0 0 1 0;"
                + "thing 0 0 1 0");
        x.minute();
        DUE.is("MENDER 3 has THING 3", x.mender(3, 0), 3);
        DUE.is("minutes", x.swap(0), 39 + 39 - 18);
        DUE.is("the least first", x.swap(1), 0);
        DUE.is("then second", x.swap(2), 2);
        // the most, not the first: MENDER 1 with MENDER 3
        MendHall y = Due.open(sorts + "skill 0 0 9;skill 0 1 40;skill 1 0 8;skill 1 1 40;"
                + "skill 2 0 40;skill 2 1 9;skill 3 0 40;skill 3 1 8;"
                + "thing 1 0 1 0;thing 1 0 1 0;thing 0 0 1 0;thing 0 0 1 0");
        y.minute();
        DUE.is("minutes", y.swap(0), 78 - 16);
        DUE.is("first", y.swap(1), 1);
        DUE.is("second", y.swap(2), 3);
    }

    private static void part() {
        MendHall none = new MendHall();
        DUE.is("part() without a HALL", none.part(0), -2);
        DUE.is("part() without a HALL", none.part(1), -2);
        MendHall x = Due.open("hall 30 30;sort 0 0;sort 0 0;sort 0 0;mender;skill 0 0 5;skill 0 1 5;"
                + "skill 0 2 5;thing 0 0 4 1;thing 1 0 9 1;thing 2 9 9 1;thing 1 0 3 0");
        DUE.is("the least of the best", x.part(0), 1);
        DUE.is("how much", x.part(1), 12);
        DUE.is("nothing changes", x.sort(1, 1), 0);
        DUE.is("as it is", x.ahead(0, 400, 2), 3);
        x.bring(1);
        DUE.is("the next", x.part(0), 2);
        DUE.is("how much", x.part(1), 21);
        x.bring(2);
        x.bring(0);
        DUE.is("of several none", x.part(0), -1);
        DUE.is("how much", x.part(1), 25);
        for (int bad : new int[] {-1, 2, Integer.MAX_VALUE, Integer.MIN_VALUE}) {
            DUE.is("part(" + bad + ")", x.part(bad), -2);
        }
        MendHall w = Due.open("hall 30 30;sort 0 0;sort 0 0;mender;skill 0 0 5;skill 0 1 5;"
                + "thing 0 0 9 1;thing 1 0 9 1");
        DUE.is("the least of two", w.part(0), 0);
        DUE.is("how much", w.part(1), 9);
        // a part can do harm: what it lets be taken keeps the MENDER from the other
        MendHall y = Due.open("hall 30 4;sort 0 0;mender;skill 0 0 9;thing 0 0 1 1;thing 0 1 30 0");
        DUE.is("none", y.part(0), -1);
        DUE.is("how much", y.part(1), 30);
        // no SORTS
        MendHall z = Due.open("hall 30 4;mender");
        DUE.is("none", z.part(0), -1);
        DUE.is("how much", z.part(1), 0);
    }

    private static void askIn() {
        MendHall none = new MendHall();
        DUE.is("askIn() without a HALL", none.askIn(0), -2);
        DUE.is("askIn() without a HALL", none.askIn(1), -2);
        MendHall x = Due.open("hall 30 30;sort 0 0;sort 0 1;sort 0 9;mender;mender;mender;"
                + "thing 0 0 4 0;thing 1 0 9 1;thing 2 9 9 1");
        DUE.is("the least of the best", x.askIn(0), 1);
        DUE.is("how much", x.askIn(1), 9);
        DUE.is("nothing changes", x.count(3), 3);
        DUE.is("nothing changes", x.mender(3, 0), -2);
        for (int bad : new int[] {-1, 2, Integer.MAX_VALUE, Integer.MIN_VALUE}) {
            DUE.is("askIn(" + bad + ")", x.askIn(bad), -2);
        }
        x.minute();
        DUE.is("from now on", x.askIn(0), 1);
        Due.minutes(x, 35);
        DUE.is("of several none", x.askIn(0), -1);
        DUE.is("how much", x.askIn(1), 0);
        // there are 4
        MendHall y = Due.open("hall 30 30;sort 0 0;sort 0 1;mender;mender;mender;mender;"
                + "skill 3 0 20;thing 0 0 4 0;thing 1 0 9 1");
        DUE.is("none", y.askIn(0), -1);
        DUE.is("as it is", y.askIn(1), 4);
        // no SORTS
        MendHall z = Due.open("hall 30 30");
        DUE.is("none", z.askIn(0), -1);
        DUE.is("how much", z.askIn(1), 0);
    }

    /** 10 MINUTES, and LOOK; behind all others; one skill; free and not at COFFEE. */
    private static void guest() {
        DUE.is("two in 10 minutes each", guestSaves("hall 90 11;sort 0 0;"), 9);
        DUE.is("the second goes in minute 10", guestSaves("hall 90 10;sort 0 0;"), 4);
        DUE.is("LOOK is added", guestSaves("hall 90 11;sort 1 0;"), 4);
        DUE.is("LOOK is added", guestSaves("hall 90 12;sort 1 0;"), 9);
        MendHall x = Due.open("hall 90 20;sort 0 0;sort 0 0;mender;mender;skill 0 1 60;"
                + "thing 0 0 4 0;thing 0 0 5 0;thing 1 0 6 0", "take 1 if mender=2",
                "take 1 if skills=1 and sort=0", "take 1 if free=3", "take 1 if skills=2");
        x.force(0);
        DUE.is("behind all others", x.askIn(1), 9);
        x.force(1);
        DUE.is("one skill", x.askIn(1), 9);
        x.force(2);
        // who takes THING 2 leaves two free; the guest has a look at 10 minutes each as MENDER 2
        x.coffee(0, 60);
        DUE.is("is free", x.askIn(0), 0);
        DUE.is("is free", x.askIn(1), 9);
        x.force(3);
        DUE.is("no two skills", x.askIn(1), 0);
    }

    private static int guestSaves(String hall) {
        return Due.open(hall + "thing 0 0 4 0;thing 0 0 5 0").askIn(1);
    }
}
