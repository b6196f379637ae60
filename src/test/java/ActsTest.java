/** Promises 10 (minute), 11 (give), 12 (putDown), 13 (bring), 14 (coffee) and 15 (undo). */
public final class ActsTest {
    private static final Due DUE = new Due("ActsTest");

    public static void main(String[] args) {
        minuteByMinute();
        withoutRule();
        comingAndGoing();
        theEnd();
        minute999();
        give();
        putDown();
        bring();
        coffee();
        undo();
        undoOfEach();
        DUE.finish();
    }

    private static void minuteByMinute() {
        MendHall none = new MendHall();
        DUE.is("minute() without a HALL", none.minute(), -1);
        DUE.is("no ACT", none.count(14), 0);
        // two MENDERS, 2 and 3 minutes: both THINGS of minute 0 are MENDED in minutes 1 and 2
        MendHall x = Due.open("hall 30 30;sort 0 0;mender;mender;skill 0 0 2;skill 1 0 3;"
                + "thing 0 0 1 0;thing 0 0 2 0;thing 0 0 4 0");
        DUE.is("minute 0", x.minute(), 0);
        DUE.is("in work", x.count(9), 3);
        DUE.is("minute 1", x.minute(), 1);
        DUE.is("free again", x.mender(0, 0), -1);
        DUE.is("nothing to go", x.mender(0, 1), 0);
        DUE.is("minute 2: 1 is MENDED, 2 begun", x.minute(), 2);
        DUE.is("in work", x.count(9), 4);
        DUE.is("minute 3", x.minute(), 4);
        DUE.is("SAVED", x.count(12), 7);
        DUE.is("the minute", x.count(7), 4);
        DUE.is("idle", x.mender(0, 3), 0);
        DUE.is("idle in minute 3", x.mender(1, 3), 1);
        // two in one MINUTE, as bits; one minute of work is done in the minute it is taken
        MendHall y = Due.open("hall 30 30;sort 0 0;mender;mender;skill 0 0 1;skill 1 0 1;"
                + "thing 0 0 1 0;thing 0 5 2 0;thing 0 0 4 0");
        DUE.is("both at once", y.minute(), 5);
        DUE.is("when", y.thing(2, 5), 0);
    }

    private static void withoutRule() {
        // the one that came first, of several the least; each MENDER by numbers
        MendHall x = Due.open("hall 30 30;sort 0 0;sort 0 1;mender;mender;skill 0 0 9;skill 1 0 9;"
                + "skill 1 1 9;thing 0 1 30 0;thing 0 0 1 0;thing 1 0 1 1;thing 0 0 30 0");
        x.coffee(0, 1);
        x.coffee(1, 1);
        x.minute();
        x.minute();
        DUE.is("MENDER 0 takes the least of those that came first", x.mender(0, 0), 1);
        DUE.is("MENDER 1 then the next of them", x.mender(1, 0), 2);
        DUE.is("a part is used up", x.sort(1, 1), 0);
        // those they can take alone: no part, no skill
        MendHall y = Due.open("hall 30 30;sort 0 0;sort 0 1;sort 0 0;mender;skill 0 0 9;skill 0 1 5;"
                + "thing 0 0 1 1;thing 2 0 1 0;thing 1 0 1 1");
        y.minute();
        DUE.is("the only one that can be taken", y.mender(0, 0), 2);
    }

    private static void comingAndGoing() {
        MendHall x = Due.open("hall 30 3;sort 0 0;thing 0 2 5 0;thing 0 4 5 0");
        Due.minutes(x, 2);
        DUE.is("not yet", x.thing(0, 4), 0);
        x.minute();
        DUE.is("waits from its COME on", x.thing(0, 4), 1);
        Due.minutes(x, 2);
        DUE.is("2 minutes", x.count(8), 3);
        DUE.is("WAIT minutes have gone by", x.minute(), 0);
        DUE.is("it goes", x.count(11), 1);
        Due.minutes(x, 2);
        DUE.is("both", x.count(11), 3);
        // WAIT 1: it waits in the minute in which it comes alone
        MendHall y = Due.open("hall 30 1;sort 0 0;mender;skill 0 0 2;thing 0 0 5 0;thing 0 0 6 0");
        y.minute();
        DUE.is("one is taken", y.count(9), 1);
        y.minute();
        DUE.is("the other goes", y.count(11), 2);
    }

    private static void theEnd() {
        MendHall x = Due.open("hall 3 300;sort 0 0;mender;mender;skill 0 0 5;thing 0 2 5 0;"
                + "thing 0 2 5 0;thing 0 3 5 0;thing 0 9 5 0");
        Due.minutes(x, 3);
        DUE.is("taken in the last minute below END", x.count(9), 1);
        DUE.is("waits", x.count(8), 2);
        DUE.is("idle", x.mender(1, 3), 3);
        x.minute();
        DUE.is("at END those that wait go, and who comes then", x.count(11), 6);
        DUE.is("none is idle from END on", x.mender(1, 3), 3);
        Due.minutes(x, 2);
        DUE.is("it is mended on", x.minute(), 1);
        DUE.is("when", x.thing(0, 5), 6);
        Due.minutes(x, 3);
        DUE.is("comes and goes", x.thing(3, 4), 4);
        DUE.is("idle", x.mender(0, 3), 2);
    }

    /** 999 MINUTES are more calls than an object is promised for; the bound stands all the same. */
    private static void minute999() {
        MendHall y = Due.open("hall 300 300;sort 0 0;mender");
        for (int n = 0; n < 999; n++) {
            DUE.is("minute " + n, y.minute(), 0);
        }
        DUE.is("count(7)", y.count(7), 999);
        DUE.is("no more", y.minute(), -1);
        DUE.is("count(7)", y.count(7), 999);
        DUE.is("and no ACT", y.count(14), 20);
        DUE.is("undo()", y.undo(), 19);
        DUE.is("count(7)", y.count(7), 998);
        DUE.is("the last", y.minute(), 0);
        DUE.is("idle", y.mender(0, 3), 300);
    }

    private static void give() {
        MendHall none = new MendHall();
        DUE.is("give() without a HALL", none.give(0, 0), -1);
        MendHall x = Due.open("hall 30 30;sort 3 1;sort 0 0;mender;mender;skill 0 0 5;skill 1 0 7;"
                + "skill 0 1 4;thing 0 0 5 1;thing 0 0 6 1;thing 1 0 1 0;thing 1 9 1 0", "take 0");
        x.force(0);
        DUE.is("has not come", x.give(0, 0), -1);
        x.minute();
        for (int[] bad : new int[][] {{-1, 0}, {2, 0}, {0, -1}, {0, 4}, {4, 7}, {0, 3}, {1, 2},
            {Integer.MIN_VALUE, 0}, {0, Integer.MAX_VALUE}}) {
            DUE.is("give(" + bad[0] + ", " + bad[1] + ")", x.give(bad[0], bad[1]), -1);
        }
        DUE.is("no ACTS", x.count(14), 1);
        DUE.is("MINUTES and LOOK", x.give(1, 1), 10);
        DUE.is("in work", x.thing(1, 4), 2);
        DUE.is("the part is used up", x.sort(0, 1), 0);
        DUE.is("mender(1, 0)", x.mender(1, 0), 1);
        DUE.is("mender(1, 1)", x.mender(1, 1), 10);
        DUE.is("it is no minute", x.count(7), 1);
        DUE.is("without a part", x.give(0, 0), -1);
        DUE.is("not free", x.give(1, 0), -1);
        DUE.is("in work already", x.give(0, 1), -1);
        x.coffee(0, 9);
        DUE.is("at COFFEE or not", x.give(0, 2), 4);
        DUE.is("COFFEE stays", x.mender(0, 2), 9);
        DUE.is("ACTS", x.count(14), 4);
        x.minute();
        DUE.is("it is mended and COFFEE goes by", x.mender(0, 1), 3);
        DUE.is("it is mended and COFFEE goes by", x.mender(0, 2), 8);
        DUE.is("not idle so", x.mender(0, 3), 1);
        Due.minutes(x, 2);
        DUE.is("MENDED", x.minute(), 4);
        DUE.is("MENDED already", x.give(0, 2), -1);
        // from END on a THING that was put down can be given still
        MendHall y = Due.open("hall 2 30;sort 0 0;mender;mender;skill 0 0 9;skill 1 0 3;"
                + "thing 0 0 5 0");
        Due.minutes(y, 5);
        y.putDown(0);
        DUE.is("behind END", y.give(1, 0), 3);
        Due.minutes(y, 2);
        DUE.is("MENDED", y.minute(), 1);
    }

    private static void putDown() {
        MendHall none = new MendHall();
        DUE.is("putDown() without a HALL", none.putDown(0), -1);
        MendHall x = Due.open("hall 30 6;sort 1 1;mender;mender;skill 0 0 9;thing 0 1 5 1", "take 0");
        DUE.is("free", x.putDown(0), -1);
        DUE.is("none such", x.putDown(-1), -1);
        DUE.is("none such", x.putDown(2), -1);
        DUE.is("none such", x.putDown(Integer.MAX_VALUE), -1);
        DUE.is("no ACTS", x.count(14), 0);
        Due.minutes(x, 4);
        DUE.is("to go", x.mender(0, 1), 7);
        x.force(0);
        DUE.is("putDown(0)", x.putDown(0), 0);
        DUE.is("free", x.mender(0, 0), -1);
        DUE.is("nothing to go", x.mender(0, 1), 0);
        DUE.is("waits again", x.count(8), 1);
        DUE.is("the part is not had back", x.sort(0, 1), 0);
        DUE.is("nothing to put down", x.putDown(0), -1);
        DUE.is("so it can't be given", x.give(0, 0), -1);
        DUE.is("it waits as long as since it came: till minute 7", x.waits(0), 6);
        Due.minutes(x, 3);
        DUE.is("still", x.thing(0, 4), 1);
        x.minute();
        DUE.is("gone", x.thing(0, 4), 4);
        // longer in work than owners wait: put down, it goes in the next MINUTE
        MendHall y = Due.open("hall 30 2;sort 0 0;mender;skill 0 0 9;thing 0 0 5 0");
        Due.minutes(y, 5);
        y.putDown(0);
        y.minute();
        DUE.is("gone at once", y.thing(0, 4), 4);
    }

    private static void bring() {
        MendHall none = new MendHall();
        DUE.is("bring() without a HALL", none.bring(0), -1);
        MendHall x = Due.open("hall 30 6;sort 1 1;sort 0 9");
        DUE.is("none such", x.bring(2), -1);
        DUE.is("none such", x.bring(-1), -1);
        DUE.is("none such", x.bring(Integer.MAX_VALUE), -1);
        DUE.is("no ACTS", x.count(14), 0);
        DUE.is("bring(0)", x.bring(0), 2);
        DUE.is("sort(0, 1)", x.sort(0, 1), 2);
        DUE.is("sort(1, 1)", x.sort(1, 1), 9);
        for (int n = 10; n <= 99; n++) {
            DUE.is("bring(1)", x.bring(1), n);
        }
        x.undo();
        DUE.is("bring(1)", x.bring(1), 99);
        DUE.is("99 at most", x.bring(1), -1);
        DUE.is("sort(1, 1)", x.sort(1, 1), 99);
        DUE.is("bring(0)", x.bring(0), 3);
        // a part brought is a part that can be used
        MendHall y = Due.open("hall 30 6;sort 0 0;mender;skill 0 0 2;thing 0 0 5 1");
        y.minute();
        DUE.is("waits", y.thing(0, 4), 1);
        y.bring(0);
        y.minute();
        DUE.is("in work", y.thing(0, 4), 2);
        DUE.is("used up", y.sort(0, 1), 0);
    }

    private static void coffee() {
        MendHall none = new MendHall();
        DUE.is("coffee() without a HALL", none.coffee(0, 5), -1);
        MendHall x = Due.open("hall 30 30;sort 0 0;mender;mender;mender;skill 0 0 5;skill 1 0 5;"
                + "thing 0 0 5 0");
        for (int[] bad : new int[][] {{-1, 1}, {3, 1}, {4, 1}, {0, 0}, {0, -1}, {0, 61},
            {0, Integer.MIN_VALUE}, {Integer.MAX_VALUE, 1}}) {
            DUE.is("coffee(" + bad[0] + ", " + bad[1] + ")", x.coffee(bad[0], bad[1]), -1);
        }
        DUE.is("no ACTS", x.count(14), 0);
        DUE.is("coffee(0, 2)", x.coffee(0, 2), 1);
        DUE.is("coffee(2, 60)", x.coffee(2, 60), 2);
        DUE.is("at it", x.coffee(0, 5), -1);
        DUE.is("mender(0, 2)", x.mender(0, 2), 2);
        DUE.is("free", x.mender(0, 0), -1);
        x.minute();
        DUE.is("who is at it takes nothing", x.mender(0, 0), -1);
        DUE.is("the next one does", x.mender(1, 0), 0);
        DUE.is("mends", x.coffee(1, 5), -1);
        DUE.is("a minute less", x.mender(0, 2), 1);
        DUE.is("a minute less", x.mender(2, 2), 59);
        DUE.is("idle", x.mender(0, 3), 1);
        x.minute();
        DUE.is("none left", x.mender(0, 2), 0);
        DUE.is("coffee(0, 1)", x.coffee(0, 1), 2);
        DUE.is("the last minute of it", x.coffee(0, 1), -1);
        x.minute();
        DUE.is("count", x.mender(0, 2), 0);
        DUE.is("at it", x.coffee(2, 1), -1);
        DUE.is("ACTS", x.count(14), 6);
        // one minute of COFFEE: the next MINUTE alone
        MendHall y = Due.open("hall 30 30;sort 0 0;mender;skill 0 0 5;thing 0 0 5 0");
        y.coffee(0, 1);
        y.minute();
        DUE.is("at COFFEE", y.mender(0, 0), -1);
        y.minute();
        DUE.is("back", y.mender(0, 0), 0);
    }

    private static void undo() {
        MendHall none = new MendHall();
        DUE.is("undo() without a HALL", none.undo(), -2);
        MendHall x = Due.open("hall 300 300;sort 0 0;mender;skill 0 0 40;thing 0 0 5 0");
        DUE.is("none", x.undo(), -2);
        for (int n = 1; n <= 25; n++) {
            x.minute();
            DUE.is("count(14)", x.count(14), Math.min(n, 20));
        }
        for (int n = 19; n >= 0; n--) {
            DUE.is("undo()", x.undo(), n);
            DUE.is("minute", x.count(7), n + 5);
            DUE.is("to go", x.mender(0, 1), 40 - n - 5);
        }
        DUE.is("the last 20 alone", x.undo(), -2);
        DUE.is("nothing happens", x.count(7), 5);
        x.minute();
        x.minute();
        DUE.is("undo()", x.undo(), 1);
        DUE.is("minute", x.count(7), 6);
        x.bring(0);
        DUE.is("count(14)", x.count(14), 2);
    }

    private static void undoOfEach() {
        MendHall x = Due.open("hall 30 30;sort 1 1;mender;mender;skill 0 0 5;skill 1 0 2;"
                + "thing 0 0 5 1;thing 0 0 6 0", "take 0");
        x.force(0);
        x.minute();
        int[] before = all(x);
        x.give(1, 0);
        x.undo();
        same("give", all(x), before);
        x.bring(0);
        x.undo();
        same("bring", all(x), before);
        x.coffee(1, 7);
        x.undo();
        same("coffee", all(x), before);
        x.minute();
        x.undo();
        same("minute", all(x), before);
        x.give(1, 0);
        before = all(x);
        x.putDown(1);
        x.undo();
        same("putDown", all(x), before);
        Due.minutes(x, 2);
        before = all(x);
        DUE.is("MENDED", x.minute(), 1);
        x.undo();
        same("minute", all(x), before);
        // MENDED is UNDONE, too
        x.minute();
        DUE.is("MENDED", x.thing(0, 4), 3);
        x.undo();
        x.undo();
        DUE.is("in work", x.thing(0, 4), 2);
        DUE.is("when", x.thing(0, 5), -1);
        // what is asked, told, forced or booked is no ACT
        int acts = x.count(14);
        x.book(1, 0, 0);
        x.seed(3);
        x.force(-1);
        x.take(0, 0);
        x.image(0);
        DUE.is("ACTS", x.count(14), acts);
        x.undo();
        DUE.is("BOOKS stay", x.count(13), 1);
        DUE.is("x stays", x.count(15), 3);
        DUE.is("none IN FORCE", x.count(6), -1);
    }

    private static int[] all(MendHall x) {
        int[] row = new int[60];
        int n = 0;
        for (int what : new int[] {0, 1, 2, 3, 4, 7, 8, 9, 10, 11, 12, 14}) {
            row[n++] = x.count(what);
        }
        for (int m = 0; m < 2; m++) {
            for (int what = 0; what < 8; what++) {
                row[n++] = x.mender(m, what);
            }
            for (int what = 0; what < 6; what++) {
                row[n++] = x.thing(m, what);
            }
        }
        row[n++] = x.sort(0, 0);
        row[n] = x.sort(0, 1);
        return row;
    }

    private static void same(String act, int[] got, int[] want) {
        for (int i = 0; i < want.length; i++) {
            DUE.is("undo of " + act + ", " + i, got[i], want[i]);
        }
    }
}
