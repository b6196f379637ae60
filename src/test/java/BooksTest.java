/** Promises 26 (book), 27 (ruled) and 28 (look). */
public final class BooksTest {
    private static final Due DUE = new Due("BooksTest");
    /** One MENDER, 5 minutes each: by each RULE another THING is first. */
    private static final String HALL = "hall 30 30;sort 0 1;mender;skill 0 0 5;thing 0 0 4 0;"
            + "thing 0 0 9 0;thing 0 2 9 0";

    public static void main(String[] args) {
        book();
        ruled();
        fromTheBegin();
        look();
        DUE.finish();
    }

    private static void book() {
        MendHall none = new MendHall();
        DUE.is("without a HALL", none.book(0, 0, 0), -2);
        DUE.is("there are none then", none.book(-1, 0, 0), 0);
        MendHall x = Due.open(HALL);
        for (int[] bad : new int[][] {{-2, 0, 0}, {400, 0, 0}, {0, -1, 0}, {0, 3, 0}, {0, 0, -1},
            {0, 0, 5}, {Integer.MAX_VALUE, 0, 0}, {Integer.MIN_VALUE, 0, 0},
            {0, Integer.MAX_VALUE, 0}, {0, 0, Integer.MAX_VALUE}}) {
            DUE.is("book" + bad[0] + " " + bad[1] + " " + bad[2],
                    x.book(bad[0], bad[1], bad[2]), -2);
        }
        DUE.is("none", x.count(13), 0);
        for (int n = 1; n <= 10; n++) {
            DUE.is("book()", x.book(n % 2 * 399, n % 3, n % 5), n);
        }
        DUE.is("there are 10", x.book(0, 0, 0), -2);
        DUE.is("count(13)", x.count(13), 10);
        DUE.is("a BOOK is no ACT", x.count(14), 0);
        DUE.is("there are none then", x.book(-1, 99, -7), 0);
        DUE.is("count(13)", x.count(13), 0);
        DUE.is("all fit then", x.ruled(0), 1);
        DUE.is("book()", x.book(0, 2, 4), 1);
    }

    private static void ruled() {
        MendHall none = new MendHall();
        DUE.is("without a HALL", none.ruled(0), -3);
        DUE.is("without a HALL", none.ruled(1), -3);
        MendHall x = Due.open(HALL);
        DUE.is("none alone", x.ruled(0), 1);
        DUE.is("told as NONE", x.ruled(1), -1);
        Due.rule(x, "take worth");
        Due.rule(x, "take 0");
        Due.rule(x, "take thing*thing-1");
        DUE.is("all without BOOKS", x.ruled(0), 4);
        DUE.is("none ahead of 0", x.ruled(1), -1);
        // at the end of MINUTE 0 THING 1 is in work by RULE 0 alone, and waits by the others
        x.book(0, 1, 2);
        DUE.is("RULE 0", x.ruled(0), 1);
        DUE.is("RULE 0", x.ruled(1), 0);
        x.book(-1, 0, 0);
        x.book(0, 1, 1);
        DUE.is("none, 1 and 2", x.ruled(0), 3);
        DUE.is("none", x.ruled(1), -1);
        x.book(0, 0, 1);
        DUE.is("1 and 2", x.ruled(0), 2);
        DUE.is("1", x.ruled(1), 1);
        // RULE 2 takes THING 2 in minute 2, MENDED in minute 6
        x.book(5, 2, 2);
        DUE.is("2", x.ruled(0), 1);
        DUE.is("2", x.ruled(1), 2);
        x.book(6, 2, 3);
        x.book(399, 0, 4);
        x.book(1, 2, 0);
        DUE.is("2", x.ruled(1), 2);
        x.book(29, 0, 1);
        x.book(30, 0, 4);
        DUE.is("2", x.ruled(1), 2);
        DUE.is("the last MINUTE", x.book(399, 1, 3), 9);
        DUE.is("no RULE", x.ruled(0), 0);
        DUE.is("none such", x.ruled(1), -2);
        for (int bad : new int[] {-1, 2, Integer.MAX_VALUE, Integer.MIN_VALUE}) {
            DUE.is("ruled(" + bad + ")", x.ruled(bad), -3);
        }
    }

    private static void fromTheBegin() {
        MendHall x = Due.open("hall 30 30;sort 0 1;mender;mender;skill 0 0 5;thing 0 1 4 1;"
                + "thing 0 0 4 1", "take worth", "take 0");
        x.book(1, 1, 2);
        DUE.is("two", x.ruled(0), 2);
        x.bring(0);
        x.coffee(0, 60);
        x.force(1);
        Due.minutes(x, 9);
        DUE.is("as the text told it, whatever was done", x.ruled(0), 2);
        DUE.is("as the text told it, whatever is IN FORCE", x.ruled(1), -1);
        DUE.is("the RULE IN FORCE stays", x.count(6), 1);
        DUE.is("and it goes on by it", x.ahead(0, 60, 2), 0);
        x.book(399, 0, 3);
        DUE.is("there was one part", x.ruled(0), 0);
        DUE.is("nothing changes", x.count(7), 9);
        DUE.is("nothing changes", x.sort(0, 1), 2);
        DUE.is("nothing changes", x.mender(0, 2), 51);
    }

    private static void look() {
        MendHall none = new MendHall();
        DUE.is("without a HALL", none.look(0, 0), -1);
        MendHall x = Due.open(HALL, "take worth", "take 0", "take thing*thing-1");
        for (int[] bad : new int[][] {{-1, 0}, {400, 0}, {0, -1}, {0, 2}, {Integer.MAX_VALUE, 1},
            {Integer.MIN_VALUE, 0}, {5, Integer.MAX_VALUE}}) {
            DUE.is("look(" + bad[0] + ", " + bad[1] + ")", x.look(bad[0], bad[1]), -1);
        }
        // at the end of MINUTE 0: THING 0 is 2 1 1 1, THING 1 is 1 2 1 1, THING 2 is 0 0 0 0
        DUE.is("of several the least", x.look(0, 0), 0);
        DUE.is("3 alike", x.look(0, 1), 3);
        // of MINUTE 6: THING 0 is 3 1 1 1, THING 1 is 2 3 1 1, THING 2 is 1 2 1 3
        DUE.is("the most alike are fewest", x.look(6, 0), 1);
        DUE.is("2 alike", x.look(6, 1), 2);
        // of MINUTE 13, by none 0, 1, 2 in this order; by RULE 0: 1, 2, 0; by RULE 2: 2 alone
        // THING 0 is 3 2 1 1, THING 1 is 3 3 1 1, THING 2 is 2 3 1 3
        DUE.is("THING 0", x.look(13, 0), 0);
        DUE.is("2 alike", x.look(13, 1), 2);
        // of MINUTE 399: THING 0 is 3 3 4 4, THING 1 is 3 3 4 4, THING 2 is 3 3 4 3
        DUE.is("of several the least", x.look(399, 0), 0);
        DUE.is("2 alike", x.look(399, 1), 2);
        // of those alone that fit
        x.book(0, 0, 1);
        x.book(0, 1, 1);
        DUE.is("1 and 2", x.ruled(0), 2);
        DUE.is("by THING 2 these part", x.look(6, 0), 2);
        DUE.is("1 alike", x.look(6, 1), 1);
        DUE.is("in no way", x.look(1, 0), 0);
        DUE.is("2 alike", x.look(1, 1), 2);
        x.book(0, 0, 4);
        DUE.is("no RULE", x.look(1, 0), -2);
        DUE.is("no RULE", x.look(1, 1), -2);
        DUE.is("nothing changes", x.count(7), 0);
        MendHall y = Due.open("hall 30 30;sort 0 0;mender");
        DUE.is("no THINGS", y.look(0, 0), -2);
        DUE.is("no THINGS", y.look(0, 1), -2);
        DUE.is("no THINGS, not without these", y.look(400, 1), -1);
    }
}
