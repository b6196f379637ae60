/** Promises 16 (ahead), 17 (done), 18 (waits), 24 (late) and 25 (idle). */
public final class AheadTest {
    private static final Due DUE = new Due("AheadTest");
    /** MENDER 0: THING 0 in minutes 0 to 4, THING 2 in 5 to 9; MENDER 1: THING 1 in 3 to 6. */
    private static final String HALL = "hall 20 6;sort 1 5;sort 0 0;sort 0 0;mender;mender;"
            + "skill 0 0 4;skill 1 1 4;thing 0 0 7 1;thing 1 3 5 0;thing 0 1 9 1;thing 0 2 3 1";

    public static void main(String[] args) {
        ahead();
        done();
        waits();
        late();
        lateByRule();
        idle();
        beyond999();
        DUE.finish();
    }

    private static void ahead() {
        MendHall none = new MendHall();
        for (int what = 0; what < 3; what++) {
            DUE.is("ahead without a HALL", none.ahead(0, 1, what), -2);
        }
        MendHall x = Due.open(HALL);
        int[] hows0 = {0, 2, 2, 2, 2, 3, 3, 3, 3, 3, 3};
        int[] hows1 = {0, 0, 0, 0, 2, 2, 2, 3, 3, 3, 3};
        int[] hows2 = {0, 0, 1, 1, 1, 1, 2, 2, 2, 2, 3};
        int[] hows3 = {0, 0, 0, 1, 1, 1, 1, 1, 1, 4, 4};
        int[] mends0 = {-1, 0, 0, 0, 0, -1, 2, 2, 2, 2, -1};
        int[] mends1 = {-1, -1, -1, -1, 1, 1, 1, -1, -1, -1, -1};
        int[] saved = {0, 0, 0, 0, 0, 7, 7, 12, 12, 12, 21};
        for (int n = 0; n <= 10; n++) {
            DUE.is("thing 0 in " + n, x.ahead(0, n, 0), hows0[n]);
            DUE.is("thing 1 in " + n, x.ahead(1, n, 0), hows1[n]);
            DUE.is("thing 2 in " + n, x.ahead(2, n, 0), hows2[n]);
            DUE.is("thing 3 in " + n, x.ahead(3, n, 0), hows3[n]);
            DUE.is("mender 0 in " + n, x.ahead(0, n, 1), mends0[n]);
            DUE.is("mender 1 in " + n, x.ahead(1, n, 1), mends1[n]);
            DUE.is("SAVED in " + n, x.ahead(-5, n, 2), saved[n]);
        }
        DUE.is("nothing changes", x.count(7), 0);
        DUE.is("no ACT", x.count(14), 0);
        Due.minutes(x, 4);
        for (int n = 0; n <= 6; n++) {
            DUE.is("thing 2 in " + n, x.ahead(2, n, 0), hows2[n + 4]);
            DUE.is("mender 0 in " + n, x.ahead(0, n, 1), mends0[n + 4]);
            DUE.is("SAVED in " + n, x.ahead(99, n, 2), saved[n + 4]);
        }
        DUE.is("SAVED in 400", x.ahead(0, 400, 2), 21);
        for (int[] bad : new int[][] {{0, -1, 0}, {0, 401, 0}, {0, -1, 1}, {0, 401, 1}, {0, -1, 2},
            {0, 401, 2}, {0, 1, -1}, {0, 1, 3}, {-1, 1, 0}, {4, 1, 0}, {-1, 1, 1}, {2, 1, 1},
            {Integer.MAX_VALUE, 1, 0}, {Integer.MIN_VALUE, 1, 1}, {0, Integer.MAX_VALUE, 2}}) {
            DUE.is("ahead" + bad[0] + " " + bad[1] + " " + bad[2],
                    x.ahead(bad[0], bad[1], bad[2]), -2);
        }
    }

    private static void done() {
        MendHall none = new MendHall();
        DUE.is("done() without a HALL", none.done(0), -1);
        MendHall x = Due.open(HALL);
        DUE.is("done(0)", x.done(0), 4);
        DUE.is("done(1)", x.done(1), 6);
        DUE.is("done(2)", x.done(2), 9);
        DUE.is("done(3)", x.done(3), -2);
        DUE.is("done(4)", x.done(4), -1);
        DUE.is("done(-1)", x.done(-1), -1);
        DUE.is("done(MAX)", x.done(Integer.MAX_VALUE), -1);
        Due.minutes(x, 12);
        DUE.is("of one that is MENDED", x.done(0), 4);
        DUE.is("of one that is MENDED", x.done(2), 9);
        DUE.is("of one that is gone", x.done(3), -2);
        DUE.is("nothing changes", x.count(7), 12);
        // behind END, too
        MendHall y = Due.open("hall 1 1;sort 9 0;mender;skill 0 0 60;thing 0 0 1 0;thing 0 1 1 0");
        DUE.is("69 minutes", y.done(0), 68);
        DUE.is("comes at END", y.done(1), -2);
    }

    private static void waits() {
        MendHall none = new MendHall();
        DUE.is("waits() without a HALL", none.waits(0), -1);
        MendHall x = Due.open(HALL);
        DUE.is("waits(0)", x.waits(0), 0);
        DUE.is("waits(1)", x.waits(1), 0);
        DUE.is("waits(2)", x.waits(2), 4);
        DUE.is("waits(3), till it goes", x.waits(3), 6);
        DUE.is("waits(4)", x.waits(4), -1);
        DUE.is("waits(-1)", x.waits(-1), -1);
        Due.minutes(x, 4);
        DUE.is("in work", x.waits(0), -1);
        DUE.is("it waits: from COME on", x.waits(2), 4);
        DUE.is("it waits: from COME on", x.waits(3), 6);
        Due.minutes(x, 5);
        DUE.is("MENDED", x.waits(1), -1);
        DUE.is("gone", x.waits(3), -1);
        // taken and MENDED in one MINUTE; comes at END or behind it
        MendHall y = Due.open("hall 5 300;sort 0 0;mender;skill 0 0 1;thing 0 2 1 0;thing 0 5 1 0;"
                + "thing 0 299 1 0;thing 0 2 1 0");
        DUE.is("one minute", y.waits(0), 0);
        DUE.is("the next", y.waits(3), 1);
        DUE.is("at END", y.waits(1), 0);
        DUE.is("behind END", y.waits(2), 0);
        // till END
        MendHall z = Due.open("hall 300 300;sort 0 0;thing 0 7 1 0;thing 0 0 1 0");
        DUE.is("to END", z.waits(0), 293);
        DUE.is("to END", z.waits(1), 300);
    }

    private static void late() {
        MendHall none = new MendHall();
        DUE.is("late() without a HALL", none.late(0), -1);
        MendHall x = Due.open(HALL);
        DUE.is("the last minute below END", x.late(0), 19);
        DUE.is("late(1)", x.late(1), 19);
        DUE.is("without a skill", x.late(2), -2);
        DUE.is("late(3)", x.late(3), -1);
        DUE.is("late(-1)", x.late(-1), -1);
        DUE.is("late(MAX)", x.late(Integer.MAX_VALUE), -1);
        DUE.is("nothing changes", x.count(4), 4);
        Due.minutes(x, 19);
        DUE.is("now is the last", x.late(0), 19);
        x.minute();
        DUE.is("END alone is left", x.late(0), -2);
        x.minute();
        DUE.is("behind END", x.late(0), -2);
        // busy till END: from minute 10 on THING 0 takes all that is left
        MendHall y = Due.open("hall 30 5;sort 0 0;mender;skill 0 0 3;sort 9 0;skill 0 1 60;"
                + "thing 1 10 1 0");
        DUE.is("it must come before, or with the other", y.late(0), 9);
        // with the same COME it is behind all others: these take the MENDER beyond END
        MendHall z = Due.open("hall 30 40;sort 0 0;mender;skill 0 0 3;sort 9 0;skill 0 1 5;"
                + "thing 1 10 1 0;thing 1 10 1 0");
        DUE.is("late(0)", z.late(0), 9);
        // 7 THINGS
        MendHall w = Due.open("hall 30 40;sort 0 0;mender;skill 0 0 3;thing 0 0 1 0;thing 0 0 1 0;"
                + "thing 0 0 1 0;thing 0 0 1 0;thing 0 0 1 0;thing 0 0 1 0");
        DUE.is("6", w.late(0), 29);
        Due.hall(w, "hall 30 40;sort 0 0;mender;skill 0 0 3;thing 0 0 1 0;thing 0 0 1 0;"
                + "thing 0 0 1 0;thing 0 0 1 0;thing 0 0 1 0;thing 0 0 1 0;thing 0 0 1 0");
        DUE.is("7", w.late(0), -2);
        DUE.is("7, without that SORT", w.late(1), -1);
        Due.minutes(w, 3);
        DUE.is("7, the first MENDED in minute 2", w.late(0), -2);
        w.minute();
        Due.hall(w, "hall 30 40;sort 0 0;mender;skill 0 0 4;thing 0 0 1 0;thing 0 0 1 0;"
                + "thing 0 0 1 0;thing 0 0 1 0;thing 0 0 1 0;thing 0 0 1 0;thing 0 0 1 0");
        Due.minutes(w, 4);
        DUE.is("7, the first MENDED in minute 3", w.late(0), -2);
        MendHall u = Due.open("hall 30 40;sort 0 0;mender;mender;skill 1 0 1");
        DUE.is("a skill of 1", u.late(0), 29);
        // NEEDS none: no part must be at hand
        MendHall v = Due.open("hall 300 300;sort 0 0;mender;skill 0 0 60");
        DUE.is("late(0)", v.late(0), 299);
        v.coffee(0, 60);
        DUE.is("late(0)", v.late(0), 299);
    }

    private static void lateByRule() {
        MendHall x = Due.open("hall 30 5;sort 0 0;mender;skill 0 0 3;thing 0 0 9 0",
                "take worth-1", "take 1 if left>20", "take 1 if thing=0 or needs=0 and worth=1"
                + " and left=13", "take 1 if thing=0 or waited=0 and left=20");
        x.force(0);
        DUE.is("WORTH 1", x.late(0), -2);
        x.force(1);
        DUE.is("left=21 in minute 9", x.late(0), 9);
        x.force(2);
        DUE.is("taken in minute 17", x.late(0), 17);
        DUE.is("from now on", x.count(7), 0);
        x.force(3);
        DUE.is("not each minute before it", x.late(0), 10);
        x.force(0);
        DUE.is("as now", x.late(0), -2);
    }

    private static void idle() {
        MendHall none = new MendHall();
        DUE.is("idle() without a HALL", none.idle(0), -1);
        MendHall x = Due.open(HALL);
        DUE.is("20 less 10", x.idle(0), 10);
        DUE.is("20 less 4", x.idle(1), 16);
        DUE.is("idle(2)", x.idle(2), -1);
        DUE.is("idle(-1)", x.idle(-1), -1);
        DUE.is("idle(MIN)", x.idle(Integer.MIN_VALUE), -1);
        Due.minutes(x, 12);
        DUE.is("and those before", x.idle(0), 10);
        DUE.is("so far", x.mender(0, 3), 2);
        Due.minutes(x, 12);
        DUE.is("behind END", x.idle(0), 10);
        DUE.is("so far", x.mender(0, 3), 10);
        // no THINGS, or all are gone: they are idle still
        MendHall y = Due.open("hall 300 1;mender;sort 0 0;thing 0 0 1 0");
        DUE.is("all minutes", y.idle(0), 300);
        // who mends at END is not idle
        MendHall z = Due.open("hall 10 9;sort 0 0;mender;skill 0 0 60;thing 0 4 1 0");
        DUE.is("4 minutes before", z.idle(0), 4);
    }

    /** More calls than an object is promised for; what is asked goes on beyond 999 all the same. */
    private static void beyond999() {
        MendHall x = Due.open("hall 300 300;sort 9 0;mender;mender;skill 0 0 60;skill 1 0 60;"
                + "thing 0 290 5 0");
        for (int n = 0; n < 300; n++) {
            x.minute();
        }
        // put down and given anew, so that there is work in minute 999
        for (int n = 300; n < 990; n++) {
            if (n % 60 == 0) {
                x.putDown(0);
                x.give(0, 0);
            }
            x.minute();
        }
        DUE.is("minute", x.count(7), 990);
        x.putDown(0);
        DUE.is("given in minute 990", x.give(0, 0), 69);
        DUE.is("MENDED beyond 999", x.done(0), 1058);
        DUE.is("SAVED", x.ahead(0, 68, 2), 0);
        DUE.is("SAVED", x.ahead(0, 69, 2), 5);
        Due.minutes(x, 9);
        DUE.is("999", x.count(7), 999);
        DUE.is("MENDED beyond 999", x.done(0), 1058);
        DUE.is("take", x.take(1, 1), 5);
    }
}
