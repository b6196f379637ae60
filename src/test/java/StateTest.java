/** Promises 7 (thing), 8 (mender), 9 (sort) and 31 (count). */
public final class StateTest {
    private static final Due DUE = new Due("StateTest");
    private static final String HALL = "hall 30 12;sort 2 3;sort 0 0;mender;mender;mender;"
            + "skill 0 0 3;skill 1 0 9;skill 1 1 4;thing 0 0 7 1;thing 1 1 5 0;thing 1 2 6 1;"
            + "thing 0 20 8 0";

    public static void main(String[] args) {
        things();
        menders();
        sorts();
        counts();
        DUE.finish();
    }

    private static void row(String what, int[] got, int... want) {
        for (int i = 0; i < want.length; i++) {
            DUE.is(what + ", " + i, got[i], want[i]);
        }
    }

    private static int[] thing(MendHall x, int thing) {
        int[] row = new int[6];
        for (int what = 0; what < 6; what++) {
            row[what] = x.thing(thing, what);
        }
        return row;
    }

    private static int[] mender(MendHall x, int mender) {
        int[] row = new int[8];
        for (int what = 0; what < 8; what++) {
            row[what] = x.mender(mender, what);
        }
        return row;
    }

    private static void things() {
        MendHall none = new MendHall();
        DUE.is("without a HALL", none.thing(0, 0), -2);
        MendHall x = Due.open(HALL);
        row("thing 0", thing(x, 0), 0, 0, 7, 1, 0, -1);
        row("thing 1", thing(x, 1), 1, 1, 5, 0, 0, -1);
        row("thing 2", thing(x, 2), 1, 2, 6, 1, 0, -1);
        row("thing 3", thing(x, 3), 0, 20, 8, 0, 0, -1);
        for (int bad : new int[] {-1, 4, 7, Integer.MAX_VALUE, Integer.MIN_VALUE}) {
            DUE.is("thing(" + bad + ", 0)", x.thing(bad, 0), -2);
        }
        for (int bad : new int[] {-1, 6, Integer.MAX_VALUE, Integer.MIN_VALUE}) {
            DUE.is("thing(0, " + bad + ")", x.thing(0, bad), -2);
        }
        // THING 0 is taken in minute 0 by MENDER 0: 3 + 2 minutes, MENDED in minute 4
        Due.minutes(x, 4);
        row("thing 0", thing(x, 0), 0, 0, 7, 1, 2, -1);
        row("thing 1", thing(x, 1), 1, 1, 5, 0, 2, -1);
        row("thing 2, without a part", thing(x, 2), 1, 2, 6, 1, 1, -1);
        x.minute();
        row("thing 0", thing(x, 0), 0, 0, 7, 1, 3, 4);
        row("thing 1, taken in minute 1 for 4", thing(x, 1), 1, 1, 5, 0, 3, 4);
        Due.minutes(x, 9);
        DUE.is("minute", x.count(7), 14);
        row("thing 2 waits till minute 14", thing(x, 2), 1, 2, 6, 1, 1, -1);
        x.minute();
        row("thing 2 goes", thing(x, 2), 1, 2, 6, 1, 4, -1);
    }

    private static void menders() {
        MendHall none = new MendHall();
        DUE.is("without a HALL", none.mender(0, 0), -2);
        MendHall x = Due.open(HALL);
        row("mender 0", mender(x, 0), -1, 0, 0, 0, 3, -1, -1, -1);
        row("mender 1", mender(x, 1), -1, 0, 0, 0, 9, 4, -1, -1);
        row("mender 2", mender(x, 2), -1, 0, 0, 0, -1, -1, -1, -1);
        for (int bad : new int[] {-1, 3, 4, Integer.MAX_VALUE, Integer.MIN_VALUE}) {
            DUE.is("mender(" + bad + ", 0)", x.mender(bad, 0), -2);
            DUE.is("mender(" + bad + ", 4)", x.mender(bad, 4), -2);
        }
        for (int bad : new int[] {-1, 8, Integer.MAX_VALUE, Integer.MIN_VALUE}) {
            DUE.is("mender(0, " + bad + ")", x.mender(0, bad), -2);
        }
        x.coffee(2, 9);
        Due.minutes(x, 2);
        row("mender 0", mender(x, 0), 0, 3, 0, 0, 3, -1, -1, -1);
        row("mender 1", mender(x, 1), 1, 3, 0, 1, 9, 4, -1, -1);
        row("mender 2", mender(x, 2), -1, 0, 7, 2, -1, -1, -1, -1);
        Due.minutes(x, 3);
        row("mender 0", mender(x, 0), -1, 0, 0, 0, 3, -1, -1, -1);
        row("mender 1", mender(x, 1), -1, 0, 0, 1, 9, 4, -1, -1);
        row("mender 2", mender(x, 2), -1, 0, 4, 5, -1, -1, -1, -1);
    }

    private static void sorts() {
        MendHall none = new MendHall();
        DUE.is("without a HALL", none.sort(0, 1), -1);
        MendHall x = Due.open(HALL);
        DUE.is("sort(0, 0)", x.sort(0, 0), 2);
        DUE.is("sort(0, 1)", x.sort(0, 1), 3);
        DUE.is("sort(1, 0)", x.sort(1, 0), 0);
        DUE.is("sort(1, 1)", x.sort(1, 1), 0);
        for (int bad : new int[] {-1, 2, 3, 4, Integer.MAX_VALUE, Integer.MIN_VALUE}) {
            DUE.is("sort(" + bad + ", 0)", x.sort(bad, 0), -1);
            DUE.is("sort(" + bad + ", 1)", x.sort(bad, 1), -1);
        }
        for (int bad : new int[] {-1, 2, Integer.MAX_VALUE, Integer.MIN_VALUE}) {
            DUE.is("sort(0, " + bad + ")", x.sort(0, bad), -1);
        }
        x.minute();
        DUE.is("a part is used up", x.sort(0, 1), 2);
        DUE.is("LOOK stays", x.sort(0, 0), 2);
    }

    private static int[] counts(MendHall x) {
        int[] row = new int[17];
        for (int what = 0; what < 17; what++) {
            row[what] = x.count(what);
        }
        return row;
    }

    private static void counts() {
        MendHall x = Due.open(HALL, "take worth", "take 1");
        row("count", counts(x), 30, 12, 2, 3, 4, 2, -1, 0, 0, 0, 0, 0, 0, 0, 0, 0, 0);
        x.force(1);
        x.seed(2147483647);
        x.book(0, 0, 0);
        x.book(0, 0, 1);
        Due.minutes(x, 4);
        row("count", counts(x), 30, 12, 2, 3, 4, 2, 1, 4, 4, 3, 0, 0, 0, 2, 4, 2147483647, 0);
        x.minute();
        row("count", counts(x), 30, 12, 2, 3, 4, 2, 1, 5, 4, 0, 3, 0, 12, 2, 5, 2147483647, 0);
        Due.minutes(x, 15);
        x.feed(1, 2, 3, 4, 5);
        row("count", counts(x), 30, 12, 2, 3, 4, 2, 1, 20, 0, 0, 3, 4, 12, 2, 20, 2147483647, 20);
        Due.minutes(x, 11);
        row("count", counts(x), 30, 12, 2, 3, 4, 2, 1, 31, 0, 0, 11, 4, 20, 2, 20, 2147483647, 20);
        for (int bad : new int[] {-1, 17, Integer.MAX_VALUE, Integer.MIN_VALUE}) {
            DUE.is("count(" + bad + ")", x.count(bad), -1);
        }
    }
}
