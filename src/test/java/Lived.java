/** Objects in which something of everything stands, so that a call that does anything can be seen. */
final class Lived {
    static final String HALL = "hall 24 8;sort 1 2;sort 0 0;mender;mender;mender;skill 0 0 3;skill 1 0 9;"
            + "skill 1 1 4;skill 2 1 5;thing 0 0 7 1;thing 1 2 5 0;thing 0 0 9 1;thing 1 20 3 0;"
            + "thing 0 3 2 1;thing 1 3 4 0";
    private static final String[] RULES = {"take worth", "take 9-thing if waited<5",
        "take queue if left>9 or parts=1"};

    private Lived() {
    }

    /**
     * Minute 7: THING 2 MENDED, 0 and 1 in work, 4 without a part and 5 wait, 3 has not come; MENDER 2 is
     * at COFFEE; two BOOKS; an IMAGE of before, and one of another HALL; a text with a FAULT on the TAPE.
     */
    static MendHall midday() {
        MendHall x = Due.open("hall 9 9;sort 0 1;mender;skill 0 0 2;thing 0 0 1 0", RULES);
        x.minute();
        x.image(3);
        Due.hall(x, HALL);
        x.force(0);
        x.seed(4711);
        x.book(3, 2, 2);
        x.book(9, 3, 0);
        x.coffee(2, 20);
        Due.minutes(x, 4);
        x.image(1);
        Due.minutes(x, 3);
        x.force(2);
        x.feed(0x74616b65, 0x20313b74, 0x616b6520, 0x323b7461, 0x6b657800);
        return x;
    }

    /** The same with six RULES, 10 BOOKS and 20 ACTS that can be UNDONE. */
    static MendHall full() {
        MendHall x = midday();
        x.end(0);
        for (int rule = 3; rule < 6; rule++) {
            Due.rule(x, "take worth-" + rule);
        }
        for (int book = 2; book < 10; book++) {
            x.book(book, 4, 1);
        }
        for (int n = 0; n < 13; n++) {
            x.bring(1);
        }
        Due.tell(x, "hall 9 9;mender;foo");
        return x;
    }
}
