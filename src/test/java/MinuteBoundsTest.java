/** The bounds of a MINUTE (part II, and promise 10), sentence by sentence. */
public final class MinuteBoundsTest {
    private static final Due DUE = new Due("MinuteBoundsTest");
    private static final Bounds BOUNDS = new Bounds(DUE);

    public static void main(String[] args) {
        comeInThisMinute();
        goAfterWait();
        goAtEnd();
        comesAndGoesInOneMinute();
        takenBelowEndAlone();
        takenInTheLastMinuteOfWaiting();
        notAtCoffee();
        mendersByNumbers();
        withASkillAlone();
        withAPartAlone();
        partsForThoseWhoComeFirst();
        theOneThatCameFirst();
        ofSeveralTheLeast();
        oneMinuteLessToGo();
        minutesAndLook();
        freeInTheNextMinute();
        mendedBehindEnd();
        idleBelowEndAlone();
        coffeeGoesBy();
        bitsOfThoseMended();
        withoutAHall();
        at999();
        DUE.finish();
    }

    private static void things(String what, MendHall x, int... hows) {
        for (int thing = 0; thing < hows.length; thing++) {
            DUE.is(what + ", how is " + thing, x.thing(thing, 4), hows[thing]);
        }
    }

    private static void mends(String what, MendHall x, int... things) {
        for (int mender = 0; mender < things.length; mender++) {
            DUE.is(what + ", who mends: " + mender, x.mender(mender, 0), things[mender]);
        }
    }

    /** "(1) THINGS whose COME is this minute come, and wait." */
    private static void comeInThisMinute() {
        MendHall x = Due.open("hall 300 300;sort 0 0;thing 0 0 1 0;thing 0 1 1 0;thing 0 2 1 0");
        things("before minute 0", x, 0, 0, 0);
        x.minute();
        things("behind minute 0", x, 1, 0, 0);
        x.minute();
        things("behind minute 1", x, 1, 1, 0);
        x.minute();
        things("behind minute 2", x, 1, 1, 1);
        MendHall y = Due.open("hall 300 300;sort 0 0;thing 0 299 1 0");
        Due.minutes(y, 299);
        things("behind minute 298", y, 0);
        y.minute();
        things("behind minute 299", y, 1);
    }

    /** "(2) Those that wait go .. if WAIT minutes or more have gone by since they came" */
    private static void goAfterWait() {
        for (int wait : new int[] {1, 2, 7, 290}) {
            MendHall x = Due.open("hall 300 " + wait + ";sort 0 0;thing 0 3 1 0;thing 0 4 1 0");
            Due.minutes(x, 3 + wait);
            things("WAIT less 1, " + wait, x, 1, wait > 1 ? 1 : 0);
            x.minute();
            things("WAIT " + wait, x, 4, 1);
            DUE.is("gone", x.count(11), 1);
            x.minute();
            things("WAIT, the next", x, 4, 4);
        }
        // more than WAIT: of one that was put down
        MendHall y = Due.open("hall 300 4;sort 0 0;mender;skill 0 0 50;thing 0 3 1 0");
        Due.minutes(y, 7);
        y.putDown(0);
        things("put down before WAIT", y, 1);
        y.undo();
        y.minute();
        y.minute();
        y.putDown(0);
        things("put down behind WAIT", y, 1);
        DUE.is("none is MENDED", y.minute(), 0);
        things("more than WAIT", y, 4);
        DUE.is("nor taken", y.mender(0, 0), -1);
    }

    /** "(2) .. or the minute is END or more" */
    private static void goAtEnd() {
        MendHall x = Due.open("hall 5 300;sort 0 0;thing 0 0 1 0;thing 0 4 1 0;thing 0 5 1 0;thing 0 6 1 0");
        Due.minutes(x, 5);
        things("END less 1", x, 1, 1, 0, 0);
        x.minute();
        things("END", x, 4, 4, 4, 0);
        x.minute();
        things("END and 1", x, 4, 4, 4, 4);
        MendHall y = Due.open("hall 1 300;sort 0 0;thing 0 0 1 0;thing 0 1 1 0");
        y.minute();
        things("END 1", y, 1, 0);
        y.minute();
        things("END 1", y, 4, 4);
        MendHall z = Due.open("hall 300 300;sort 0 0;thing 0 0 1 0;thing 0 1 1 0");
        Due.minutes(z, 300);
        things("END 300 less 1", z, 1, 1);
        z.minute();
        things("END 300, WAIT 300", z, 4, 4);
    }

    /** (1) is ahead of (2), and (2) of (3): who comes at END or behind it goes at once. */
    private static void comesAndGoesInOneMinute() {
        MendHall x = Due.open("hall 2 300;sort 0 0;mender;skill 0 0 1;thing 0 2 1 0;thing 0 299 1 0");
        Due.minutes(x, 2);
        DUE.is("not MENDED", x.minute(), 0);
        things("at END", x, 4, 0);
        DUE.is("waits()", x.waits(1), 0);
        DUE.is("waits() of one that is gone", x.waits(0), -1);
    }

    /** "(3) Is the minute below END" */
    private static void takenBelowEndAlone() {
        for (int end : new int[] {1, 2, 30, 60, 300}) {
            String last = ";thing 0 " + (end - 1) + " 1 0";
            MendHall x = Due.open("hall " + end + " 300;sort 0 0;mender;skill 0 0 60" + last);
            Due.minutes(x, end);
            things("taken in END less 1, " + end, x, 2);
        }
        for (int end : new int[] {1, 2, 30, 60}) {
            MendHall x = Due.open("hall " + end + " 300;sort 0 0;mender;skill 0 0 60;thing 0 0 1 0");
            x.coffee(0, end);
            Due.minutes(x, end);
            things("at COFFEE up to END, " + end, x, 1);
            x.minute();
            things("not taken at END, " + end, x, 4);
            mends("not taken at END, " + end, x, -1);
        }
    }

    /** (2) is ahead of (3): taken at WAIT less 1, not at WAIT. */
    private static void takenInTheLastMinuteOfWaiting() {
        MendHall x = Due.open("hall 30 4;sort 0 0;mender;skill 0 0 9;thing 0 0 1 0");
        x.coffee(0, 3);
        Due.minutes(x, 3);
        things("waits", x, 1);
        x.minute();
        things("WAIT less 1", x, 2);
        MendHall y = Due.open("hall 30 4;sort 0 0;mender;skill 0 0 9;thing 0 0 1 0");
        y.coffee(0, 4);
        Due.minutes(y, 4);
        things("waits", y, 1);
        y.minute();
        things("WAIT", y, 4);
    }

    /** "those who are free and not at COFFEE" */
    private static void notAtCoffee() {
        for (int coffee : new int[] {1, 2, 60}) {
            MendHall x = Due.open("hall 300 300;sort 0 0;mender;skill 0 0 9;thing 0 0 1 0");
            x.coffee(0, coffee);
            Due.minutes(x, coffee);
            mends("at COFFEE for " + coffee, x, -1);
            x.minute();
            mends("in the next minute behind " + coffee, x, 0);
        }
        MendHall y = Due.open("hall 30 30;sort 0 0;mender;skill 0 0 9;thing 0 0 1 0;thing 0 0 1 0");
        Due.minutes(y, 8);
        mends("who mends is not free", y, 0);
        things("who mends is not free", y, 2, 1);
    }

    /** "MENDERS by numbers" */
    private static void mendersByNumbers() {
        MendHall x = Due.open("hall 30 30;sort 0 0;mender;mender;mender;mender;skill 3 0 9;skill 2 0 9;"
                + "skill 1 0 9;skill 0 0 9;thing 0 0 1 0;thing 0 0 1 0;thing 0 0 1 0");
        x.minute();
        mends("the least first", x, 0, 1, 2, -1);
    }

    /** "if they have a skill for its SORT" */
    private static void withASkillAlone() {
        MendHall x = Due.open("hall 30 30;sort 0 0;sort 0 0;mender;mender;skill 0 1 9;thing 0 0 1 0;"
                + "thing 1 0 1 0;thing 1 0 1 0");
        x.minute();
        mends("of their SORT", x, 1, -1);
        things("of their SORT", x, 1, 2, 1);
    }

    /** "and a part is at hand, if it NEEDS one: that part is used up" */
    private static void withAPartAlone() {
        String hall = "hall 30 30;sort 0 #;sort 0 9;mender;skill 0 0 9;thing 0 0 1 1;thing 0 3 1 0";
        MendHall none = Due.open(hall.replace("#", "0"));
        none.minute();
        mends("no part", none, -1);
        Due.minutes(none, 3);
        mends("it NEEDS none", none, 1);
        DUE.is("none used up", none.sort(0, 1), 0);
        MendHall one = Due.open(hall.replace("#", "1"));
        one.minute();
        mends("one part", one, 0);
        DUE.is("used up", one.sort(0, 1), 0);
        DUE.is("of the other SORT none", one.sort(1, 1), 9);
        MendHall nine = Due.open(hall.replace("#", "9"));
        nine.minute();
        DUE.is("used up", nine.sort(0, 1), 8);
        Due.minutes(nine, 9);
        mends("it NEEDS none", nine, 1);
        DUE.is("none used up", nine.sort(0, 1), 8);
    }

    /** One part, two MENDERS: the first takes it, the second has none in the same MINUTE. */
    private static void partsForThoseWhoComeFirst() {
        MendHall x = Due.open("hall 30 30;sort 0 1;mender;mender;skill 0 0 9;skill 1 0 9;thing 0 0 1 1;"
                + "thing 0 0 1 1");
        x.minute();
        mends("one part", x, 0, -1);
        x.bring(0);
        x.minute();
        mends("another", x, 0, 1);
        DUE.is("PARTS", x.sort(0, 1), 0);
    }

    /** "without a RULE the one that came first": of any WORTH, and the greater number. */
    private static void theOneThatCameFirst() {
        MendHall x = Due.open("hall 300 300;sort 0 0;mender;skill 0 0 9;thing 0 299 30 0;thing 0 298 1 0");
        x.coffee(0, 60);
        Due.minutes(x, 298);
        x.coffee(0, 1);
        x.minute();
        x.minute();
        mends("298 ahead of 299", x, 1);
        MendHall y = Due.open("hall 300 300;sort 0 0;mender;skill 0 0 9;thing 0 1 30 0;thing 0 0 1 0");
        y.coffee(0, 2);
        Due.minutes(y, 3);
        mends("0 ahead of 1", y, 1);
    }

    /** "of several the least" */
    private static void ofSeveralTheLeast() {
        MendHall x = Due.open("hall 300 300;sort 0 0;sort 0 0;mender;skill 0 1 9;thing 0 0 1 0;thing 1 5 1 0;"
                + "thing 1 5 9 0;thing 1 6 9 0");
        Due.minutes(x, 6);
        mends("1 and 2 came at once", x, 1);
    }

    /** "(4) .. 1 minute less to go, at 0 the THING is MENDED, in this minute" */
    private static void oneMinuteLessToGo() {
        MendHall x = Due.open("hall 30 30;sort 0 0;mender;skill 0 0 3;thing 0 2 5 0");
        Due.minutes(x, 2);
        DUE.is("minute 2", x.minute(), 0);
        DUE.is("to go", x.mender(0, 1), 2);
        DUE.is("minute 3", x.minute(), 0);
        DUE.is("to go", x.mender(0, 1), 1);
        things("1 minute to go", x, 2);
        DUE.is("not MENDED", x.thing(0, 5), -1);
        DUE.is("minute 4", x.minute(), 1);
        things("0 to go", x, 3);
        DUE.is("in this minute", x.thing(0, 5), 4);
        DUE.is("SAVED", x.count(12), 5);
        mends("free", x, -1);
        DUE.is("to go", x.mender(0, 1), 0);
    }

    /** "it is in work for their MINUTES and its LOOK": 1 and 0 to 60 and 9. */
    private static void minutesAndLook() {
        for (int[] time : new int[][] {{1, 0}, {1, 1}, {2, 0}, {60, 0}, {60, 9}, {1, 9}}) {
            MendHall x = Due.open("hall 1 1;sort " + time[1] + " 0;mender;skill 0 0 " + time[0]
                    + ";thing 0 0 5 0");
            Due.minutes(x, time[0] + time[1] - 1);
            DUE.is("not yet", x.count(10), 0);
            DUE.is("MENDED", x.minute(), 1);
            DUE.is("when", x.thing(0, 5), time[0] + time[1] - 1);
        }
    }

    /** (4) is behind (3): who gets free takes in the next MINUTE. */
    private static void freeInTheNextMinute() {
        MendHall x = Due.open("hall 30 30;sort 0 0;mender;skill 0 0 1;thing 0 0 1 0;thing 0 0 1 0;"
                + "thing 0 0 1 0");
        DUE.is("one in each", x.minute(), 1);
        things("one in each", x, 3, 1, 1);
        mends("free", x, -1);
        DUE.is("one in each", x.minute(), 2);
        DUE.is("one in each", x.minute(), 4);
        DUE.is("none is left", x.minute(), 0);
        DUE.is("idle so", x.mender(0, 3), 1);
    }

    /** What is in work is MENDED behind END, too. */
    private static void mendedBehindEnd() {
        MendHall x = Due.open("hall 3 3;sort 0 0;mender;skill 0 0 5;thing 0 2 9 0");
        Due.minutes(x, 6);
        things("in work", x, 2);
        DUE.is("MENDED", x.minute(), 1);
        DUE.is("when", x.thing(0, 5), 6);
        DUE.is("SAVED", x.count(12), 9);
    }

    /** "each other one is idle a minute more, if the minute is below END" */
    private static void idleBelowEndAlone() {
        MendHall x = Due.open("hall 3 3;sort 0 0;mender;mender;mender;skill 1 0 1;thing 0 1 9 0");
        x.coffee(2, 60);
        int[][] idle = {{1, 1, 1}, {2, 1, 2}, {3, 2, 3}, {3, 2, 3}, {3, 2, 3}};
        for (int n = 0; n < idle.length; n++) {
            x.minute();
            for (int mender = 0; mender < 3; mender++) {
                DUE.is("idle " + mender + " behind " + n, x.mender(mender, 3), idle[n][mender]);
            }
        }
        MendHall y = Due.open("hall 300 1;mender");
        Due.minutes(y, 310);
        DUE.is("300 at most", y.mender(0, 3), 300);
    }

    /** "(5) Who is at COFFEE has 1 minute less of it.", behind END, too. */
    private static void coffeeGoesBy() {
        MendHall x = Due.open("hall 2 2;mender;mender");
        x.coffee(0, 1);
        x.coffee(1, 4);
        int[][] coffee = {{0, 3}, {0, 2}, {0, 1}, {0, 0}, {0, 0}};
        for (int[] left : coffee) {
            x.minute();
            DUE.is("of 1", x.mender(0, 2), left[0]);
            DUE.is("of 4", x.mender(1, 2), left[1]);
        }
    }

    /** Promise 10: "THINGS that are MENDED in it, as bits": none to all seven of numbers 0 to 6. */
    private static void bitsOfThoseMended() {
        MendHall x = Due.open("hall 30 30;sort 0 0;mender;mender;mender;mender;skill 0 0 1;skill 1 0 1;"
                + "skill 2 0 1;skill 3 0 1" + ";thing 0 0 1 0".repeat(3) + ";thing 0 1 1 0".repeat(4));
        DUE.is("0, 1 and 2", x.minute(), 7);
        DUE.is("3, 4, 5 and 6", x.minute(), 120);
        DUE.is("none", x.minute(), 0);
        DUE.is("all", x.count(10), 127);
    }

    /** Promise 10: "NONE, and nothing happens, without a HALL" */
    private static void withoutAHall() {
        BOUNDS.refused("minute() without a HALL", MendHall::new, MendHall::minute, -1);
        BOUNDS.refused("minute() behind an IMAGE without one", () -> {
            MendHall x = new MendHall();
            x.image(0);
            Due.hall(x, Lived.HALL);
            x.minute();
            x.back(0);
            return x;
        }, MendHall::minute, -1);
        DUE.is("without MENDERS, SORTS and THINGS", Due.open("hall 1 1").minute(), 0);
    }

    /** "The minute is 1 more (999 at most)": more calls than are promised, the bound stands all the same. */
    private static void at999() {
        BOUNDS.refused("minute() at 999", () -> {
            MendHall x = Due.open(Lived.HALL, "take worth");
            Due.minutes(x, 999);
            return x;
        }, MendHall::minute, -1);
        MendHall x = Due.open(Lived.HALL);
        Due.minutes(x, 998);
        DUE.is("at 998", x.minute(), 0);
        DUE.is("999", x.count(7), 999);
        DUE.is("no more", x.minute(), -1);
        DUE.is("999", x.count(7), 999);
    }
}
