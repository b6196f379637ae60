/** Promises 32 (image) and 33 (back). */
public final class ImagesTest {
    private static final Due DUE = new Due("ImagesTest");
    private static final String HALL = "hall 30 12;sort 1 3;mender;mender;skill 0 0 5;skill 1 0 9;"
            + "thing 0 0 4 1;thing 0 3 9 1";

    public static void main(String[] args) {
        wrong();
        all();
        books();
        rulesAndTapeStay();
        undoFromAnImage();
        withoutHall();
        DUE.finish();
    }

    private static void wrong() {
        MendHall x = Due.open(HALL);
        for (int bad : new int[] {-1, 4, Integer.MAX_VALUE, Integer.MIN_VALUE}) {
            DUE.is("image(" + bad + ")", x.image(bad), -1);
            DUE.is("back(" + bad + ")", x.back(bad), -1);
        }
        Due.minutes(x, 3);
        for (int k = 0; k < 4; k++) {
            DUE.is("never made", x.back(k), -1);
            DUE.is("nothing happens", x.count(7), 3);
        }
        for (int k = 0; k < 4; k++) {
            DUE.is("image(" + k + ")", x.image(k), 3 + k);
            x.minute();
        }
        DUE.is("an IMAGE is no ACT", x.count(14), 7);
        for (int k = 0; k < 4; k++) {
            DUE.is("back(" + k + ")", x.back(k), 3 + k);
            DUE.is("count(7)", x.count(7), 3 + k);
        }
        DUE.is("back(0)", x.back(0), 3);
        DUE.is("made anew", x.image(1), 3);
        DUE.is("back(3)", x.back(3), 6);
        DUE.is("back(1)", x.back(1), 3);
        DUE.is("the others stay", x.back(2), 5);
    }

    private static int[] row(MendHall x) {
        int[] row = new int[80];
        int n = 0;
        for (int what = 0; what < 16; what++) {
            row[n++] = what == 5 ? 0 : x.count(what);
        }
        for (int i = 0; i < 3; i++) {
            for (int what = 0; what < 8; what++) {
                row[n++] = x.mender(i, what);
            }
            for (int what = 0; what < 6; what++) {
                row[n++] = x.thing(i, what);
            }
            row[n++] = x.sort(i, 0);
            row[n++] = x.sort(i, 1);
        }
        row[n++] = x.ruled(0);
        row[n++] = x.ruled(1);
        row[n++] = x.saturdays(3, 20, 0);
        row[n] = x.ahead(0, 400, 2);
        return row;
    }

    private static void same(String what, MendHall x, int[] want) {
        int[] got = row(x);
        for (int i = 0; i < want.length; i++) {
            DUE.is(what + ", " + i, got[i], want[i]);
        }
    }

    private static void all() {
        MendHall x = Due.open(HALL, "take worth", "take 0");
        x.force(0);
        x.seed(4711);
        x.book(0, 0, 2);
        Due.minutes(x, 4);
        x.bring(0);
        x.coffee(0, 3);
        int[] want = row(x);
        x.image(2);
        same("made", x, want);
        // all of it is changed
        x.force(1);
        x.seed(5);
        x.book(9, 1, 4);
        x.book(8, 1, 4);
        x.bring(0);
        x.putDown(0);
        Due.minutes(x, 15);
        Due.hall(x, "hall 99 9;sort 0 0;sort 9 9;mender;mender;mender;skill 2 1 3;thing 1 9 9 0;"
                + "thing 1 9 9 0;thing 1 9 9 0");
        x.minute();
        DUE.is("back(2)", x.back(2), 4);
        same("gone back to", x, want);
        // it can be gone back to again, and what is done behind it does not change it
        x.force(-1);
        Due.minutes(x, 9);
        x.book(-1, 0, 0);
        DUE.is("back(2)", x.back(2), 4);
        same("gone back to again", x, want);
    }

    private static void books() {
        MendHall x = Due.open(HALL, "take worth", "take 0");
        x.book(0, 0, 1);
        x.book(3, 1, 1);
        x.image(0);
        DUE.is("RULE 1 alone", x.ruled(1), 1);
        for (int[] other : new int[][] {{5, 0, 1}, {0, 1, 1}, {0, 0, 2}}) {
            x.book(-1, 0, 0);
            x.book(other[0], other[1], other[2]);
            x.book(other[0], other[1], other[2]);
            x.back(0);
            DUE.is("BOOKS", x.count(13), 2);
            DUE.is("how many", x.ruled(0), 1);
            DUE.is("RULE 1 alone", x.ruled(1), 1);
        }
    }

    private static void rulesAndTapeStay() {
        MendHall x = Due.open(HALL, "take worth");
        x.force(0);
        x.image(0);
        Due.rule(x, "take 0");
        x.force(1);
        x.feed(1, 2, 3, 4, 5);
        DUE.is("back(0)", x.back(0), 0);
        DUE.is("the RULES stay", x.count(5), 2);
        DUE.is("the TAPE stays", x.count(16), 20);
        DUE.is("the RULE IN FORCE is as it was", x.count(6), 0);
        DUE.is("and it goes on by it", x.ahead(0, 1, 1), 0);
        DUE.is("the other can be forced", x.force(1), 0);
        DUE.is("and it goes on by it", x.ahead(0, 1, 1), -1);
    }

    private static void undoFromAnImage() {
        MendHall x = Due.open(HALL);
        Due.minutes(x, 3);
        x.bring(0);
        x.image(0);
        Due.minutes(x, 25);
        x.undo();
        DUE.is("back(0)", x.back(0), 3);
        DUE.is("what can be UNDONE", x.count(14), 4);
        DUE.is("undo()", x.undo(), 3);
        DUE.is("the part is gone", x.sort(0, 1), 2);
        DUE.is("undo()", x.undo(), 2);
        DUE.is("minute", x.count(7), 2);
        DUE.is("undo()", x.undo(), 1);
        DUE.is("undo()", x.undo(), 0);
        DUE.is("undo()", x.undo(), -2);
        DUE.is("minute", x.count(7), 0);
        // an IMAGE of more than 20 ACTS
        Due.minutes(x, 27);
        x.image(1);
        Due.minutes(x, 7);
        x.back(1);
        for (int n = 19; n >= 0; n--) {
            DUE.is("undo()", x.undo(), n);
            DUE.is("minute", x.count(7), 7 + n);
        }
        DUE.is("undo()", x.undo(), -2);
    }

    private static void withoutHall() {
        MendHall x = new MendHall();
        DUE.is("image(3)", x.image(3), 0);
        x.seed(9);
        Due.hall(x, HALL);
        Due.minutes(x, 2);
        DUE.is("image(1)", x.image(1), 2);
        DUE.is("back(3)", x.back(3), 0);
        for (int what = 0; what <= 16; what++) {
            DUE.is("count(" + what + ")", x.count(what), what == 6 ? -1 : 0);
        }
        DUE.is("no HALL", x.minute(), -1);
        DUE.is("no HALL", x.match(0), -3);
        DUE.is("no MENDER", x.mender(0, 0), -2);
        DUE.is("back(1)", x.back(1), 2);
        DUE.is("END", x.count(0), 30);
        DUE.is("x", x.count(15), 9);
    }
}
