import java.util.function.Supplier;
import java.util.function.ToIntFunction;

/** The bounds of BOOKS, DRAWS and IMAGES (part III, and promises 26 to 33), sentence by sentence. */
public final class BookBoundsTest {
    private static final Due DUE = new Due("BookBoundsTest");
    private static final Bounds BOUNDS = new Bounds(DUE);
    /** One MENDER, 5 minutes each: without a RULE 0, 1 and 2 in this order. */
    private static final String HALL = "hall 30 30;sort 0 0;mender;skill 0 0 5;thing 0 0 4 0;thing 0 0 9 0;"
            + "thing 0 2 9 0";
    private static final int[] BEYOND = {Integer.MAX_VALUE, Integer.MIN_VALUE};

    public static void main(String[] args) {
        tenBooks();
        bookOfTheNthMinute();
        bookOfAThing();
        bookHowItWas();
        bookNone();
        ruledWhat0To1();
        ruledOfTheRulesAndOfNone();
        ruledAllBooks();
        ruledFromTheBeginOn();
        lookN0To399();
        lookWhat0To1();
        lookFewestAlike();
        lookOfSeveralTheLeast();
        lookNoneIsSo();
        seedFrom0();
        drawsGoRound();
        saturdays1To10();
        lateBy0To60();
        saturdaysWhat0To1();
        saturdaysXAsItWas();
        saturdaysFromTheBeginOn();
        images0To3();
        imageNeverMade();
        allAsItWas();
        rulesAndTapeStay();
        imagesStay();
        DUE.finish();
    }

    private static void refused(String call, Supplier<MendHall> made, ToIntFunction<MendHall> called,
            int want) {
        BOUNDS.refused(call, made, called, want);
    }

    private static void noBook(int n, int thing, int how) {
        refused("book(" + n + ", " + thing + ", " + how + ")", Lived::midday,
                x -> x.book(n, thing, how), -2);
    }

    /** "BOOKS 0 to 9"; promise 26: "-2, and nothing happens, .. if there are 10" */
    private static void tenBooks() {
        MendHall x = Due.open(HALL);
        for (int n = 1; n <= 10; n++) {
            DUE.is("book()", x.book(0, 0, 2), n);
            DUE.is("count(13)", x.count(13), n);
        }
        DUE.is("the eleventh", x.book(0, 0, 2), -2);
        DUE.is("count(13)", x.count(13), 10);
        refused("book(0, 0, 1), there are 10", Lived::full, y -> y.book(0, 0, 1), -2);
        refused("book(-2, 0, 1), there are 10", Lived::full, y -> y.book(-2, 0, 1), -2);
        // the tenth counts
        MendHall nine = Due.open(HALL);
        for (int n = 0; n < 9; n++) {
            nine.book(0, 0, 2);
        }
        DUE.is("nine are so", nine.ruled(0), 1);
        nine.book(0, 0, 1);
        DUE.is("the tenth is not", nine.ruled(0), 0);
    }

    /** "at the end of the n-th MINUTE of all (0 to 399)" */
    private static void bookOfTheNthMinute() {
        MendHall x = Due.open(HALL);
        DUE.is("0", x.book(0, 0, 2), 1);
        DUE.is("399", x.book(399, 0, 3), 2);
        DUE.is("both are so", x.ruled(0), 1);
        noBook(-2, 0, 0);
        noBook(400, 0, 0);
        noBook(401, 0, 0);
        for (int bad : BEYOND) {
            noBook(bad, 0, 0);
        }
        // THING 0 is MENDED in minute 4: 2 at the end of 3, 3 at the end of 4
        int[][] so = {{0, 2}, {3, 2}, {4, 3}, {5, 3}};
        for (int[] book : so) {
            for (int how = 0; how <= 4; how++) {
                x.book(-1, 0, 0);
                x.book(book[0], 0, how);
                DUE.is("at the end of " + book[0] + " it was " + how, x.ruled(0), how == book[1] ? 1 : 0);
            }
        }
        // as far as one THING can go: it comes in 299, and is MENDED in 367
        MendHall y = Due.open("hall 300 300;sort 9 0;mender;skill 0 0 60;thing 0 299 1 0");
        for (int n : new int[] {298, 299, 366, 367, 399}) {
            int how = n < 299 ? 0 : n < 367 ? 2 : 3;
            y.book(-1, 0, 0);
            y.book(n, 0, how);
            DUE.is("at the end of " + n, y.ruled(0), 1);
            y.book(n, 0, (how + 1) % 5);
            DUE.is("two ways at once", y.ruled(0), 0);
        }
    }

    private static void bookOfAThing() {
        DUE.is("the first", Lived.midday().book(0, 0, 0), 3);
        DUE.is("the last", Lived.midday().book(0, 5, 0), 3);
        noBook(0, -1, 0);
        noBook(0, 6, 0);
        noBook(0, 7, 0);
        for (int bad : BEYOND) {
            noBook(0, bad, 0);
        }
        refused("book(0, 0, 0) without a HALL", MendHall::new, x -> x.book(0, 0, 0), -2);
        refused("book(0, 0, 0) without THINGS", () -> Due.open("hall 9 9;sort 0 0;mender"),
                x -> x.book(0, 0, 0), -2);
    }

    /** "a THING was so (0 to 4)" */
    private static void bookHowItWas() {
        for (int how = 0; how <= 4; how++) {
            DUE.is("book(0, 0, " + how + ")", Lived.midday().book(0, 0, how), 3);
        }
        noBook(0, 0, -1);
        noBook(0, 0, 5);
        for (int bad : BEYOND) {
            noBook(0, 0, bad);
        }
    }

    /** "(n NONE: there are none then, 0)" */
    private static void bookNone() {
        for (int[] any : new int[][] {{0, 0}, {-1, -1}, {99, 99}, BEYOND}) {
            MendHall x = Lived.full();
            DUE.is("book(-1, ..)", x.book(-1, any[0], any[1]), 0);
            DUE.is("count(13)", x.count(13), 0);
            DUE.is("all are so", x.ruled(0), 7);
            DUE.is("there is place again", x.book(0, 0, 0), 1);
        }
        DUE.is("of none", Due.open(HALL).book(-1, 0, 0), 0);
        DUE.is("without a HALL", new MendHall().book(-1, 0, 0), 0);
        BOUNDS.alike("book(-1, 0, 0) without BOOKS", () -> {
            MendHall x = Lived.midday();
            x.book(-1, 0, 0);
            return x;
        }, x -> x.book(-1, 0, 0), x -> { });
    }

    private static void ruledWhat0To1() {
        for (int bad : new int[] {-1, -2, 2, 3, BEYOND[0], BEYOND[1]}) {
            refused("ruled(" + bad + ")", Lived::midday, x -> x.ruled(bad), -3);
            refused("ruled(" + bad + ") without a HALL", MendHall::new, x -> x.ruled(bad), -3);
        }
        refused("ruled(0) without a HALL", MendHall::new, x -> x.ruled(0), -3);
        refused("ruled(1) without a HALL", MendHall::new, x -> x.ruled(1), -3);
    }

    private static void ruled(String what, MendHall x, int many, int first) {
        DUE.is(what + ", how many", x.ruled(0), many);
        DUE.is(what + ", the first", x.ruled(1), first);
    }

    /** "which of the RULES, and of none"; "(none ahead of 0, told as NONE)"; "-2: there is none such" */
    private static void ruledOfTheRulesAndOfNone() {
        MendHall x = Due.open(HALL);
        ruled("no RULES, no BOOKS", x, 1, -1);
        String[] rules = {"take worth", "take 10-worth", "take worth*2", "take 0", "take 1", "take thing"};
        for (int rule = 0; rule < 6; rule++) {
            Due.rule(x, rules[rule]);
            ruled("no BOOKS", x, rule + 2, -1);
        }
        // in minute 0 THING 0 is taken by none, 1 and 4, THING 1 by 0, 2 and 5, and none by 3
        x.book(0, 0, 2);
        ruled("none is the first", x, 3, -1);
        x.book(-1, 0, 0);
        x.book(0, 1, 2);
        ruled("RULE 0 is the first", x, 3, 0);
        x.book(5, 2, 2);
        ruled("RULE 0 takes THING 2 then, as 2 and 5 do", x, 3, 0);
        x.book(-1, 0, 0);
        x.book(30, 0, 4);
        ruled("3, and 5 by which THING 0 is 0", x, 2, 3);
        x.book(-1, 0, 0);
        x.book(9, 2, 3);
        ruled("0, 2 and 5", x, 3, 0);
        x.book(13, 0, 2);
        x.book(14, 0, 3);
        ruled("0 and 2, THING 0 behind it", x, 2, 0);
        x.book(14, 0, 2);
        ruled("two ways at once", x, 0, -2);
        // the last RULE alone
        MendHall y = Due.open(HALL, "take 0", "take 0", "take 0", "take 0", "take 0", "take thing*thing");
        y.book(2, 2, 2);
        ruled("none of them", y, 0, -2);
        y.book(-1, 0, 0);
        y.book(0, 1, 2);
        ruled("the last alone", y, 1, 5);
    }

    /** "all BOOKS are so": of one MINUTE, and of several in any order. */
    private static void ruledAllBooks() {
        MendHall x = Due.open(HALL, "take 0");
        x.book(9, 1, 3);
        x.book(0, 0, 2);
        x.book(4, 0, 3);
        x.book(4, 1, 1);
        x.book(5, 1, 2);
        ruled("by none alone", x, 1, -1);
        x.book(0, 1, 2);
        ruled("by none at all", x, 0, -2);
        MendHall y = Due.open(HALL, "take 0");
        y.book(29, 0, 1);
        y.book(3, 0, 1);
        ruled("by RULE 0", y, 1, 0);
        y.book(30, 0, 1);
        ruled("it is gone at END", y, 0, -2);
    }

    /** "from the begin on, all as the text told it" */
    private static void ruledFromTheBeginOn() {
        MendHall x = Due.open("hall 30 30;sort 0 1;mender;skill 0 0 5;thing 0 0 4 1;thing 0 0 9 1", "take 0");
        x.book(4, 0, 3);
        x.book(29, 1, 1);
        ruled("at the begin", x, 1, -1);
        x.force(0);
        x.coffee(0, 60);
        Due.minutes(x, 3);
        x.give(0, 1);
        x.bring(0);
        x.bring(0);
        x.putDown(0);
        ruled("whatever is done", x, 1, -1);
        Due.minutes(x, 50);
        ruled("behind END", x, 1, -1);
    }

    private static void lookN0To399() {
        for (int what = 0; what < 2; what++) {
            int w = what;
            for (int bad : new int[] {-1, -2, 400, 401, BEYOND[0], BEYOND[1]}) {
                refused("look(" + bad + ", " + w + ")", Lived::midday, x -> x.look(bad, w), -1);
            }
            refused("look(0, " + w + ") without a HALL", MendHall::new, x -> x.look(0, w), -1);
        }
        // in minute 0 none and RULE 0 part by THING 0; at the end of 399 by whether it is MENDED
        MendHall x = Due.open("hall 300 300;sort 0 0;mender;skill 0 0 5;thing 0 0 4 0", "take 0",
                "take left-1");
        DUE.is("0", x.look(0, 1), 2);
        DUE.is("4", x.look(4, 1), 2);
        DUE.is("299: 3, 1, 3", x.look(299, 1), 2);
        DUE.is("399: 3, 4, 3", x.look(399, 1), 2);
        // the n-th MINUTE, not the one before or behind: RULE 0 takes it in minute 7
        MendHall y = Due.open("hall 30 30;sort 0 0;mender;skill 0 0 9;thing 0 0 4 0",
                "take 1 if waited=7", "take 0");
        // by none it is in work from 0 to 7, MENDED in 8; by RULE 0 from 7 on; by RULE 1 it waits
        int[] alike = {2, 2, 2, 2, 2, 2, 2, 2, 1, 1, 1};
        for (int n = 0; n < alike.length; n++) {
            DUE.is("at the end of " + n, y.look(n, 1), alike[n]);
        }
    }

    private static void lookWhat0To1() {
        for (int bad : new int[] {-1, 2, 3, BEYOND[0], BEYOND[1]}) {
            refused("look(0, " + bad + ")", Lived::midday, x -> x.look(0, bad), -1);
        }
    }

    /** "the THING by how it is these part best: the most alike are fewest" */
    private static void lookFewestAlike() {
        // minute 0: THING 0 is in work by none and 1, THING 1 by 0; 2 takes none
        MendHall x = Due.open(HALL, "take worth", "take 10-worth", "take 0");
        DUE.is("THING 0: 2 1 2 1", x.look(0, 0), 0);
        DUE.is("2 alike", x.look(0, 1), 2);
        // minute 5: THING 0 is 3 1 3 1, THING 1 is 2 3 2 1, THING 2 is 1 2 1 1: most alike 2, 2, 3
        DUE.is("of several the least", x.look(5, 0), 0);
        DUE.is("2 alike", x.look(5, 1), 2);
        x.book(4, 0, 1);
        // RULES 0 and 2: THING 0 is 1 1, THING 1 is 3 1, THING 2 is 2 1
        DUE.is("THING 1 parts them", x.look(5, 0), 1);
        DUE.is("1 alike", x.look(5, 1), 1);
    }

    private static void lookOfSeveralTheLeast() {
        // how one THING is does not count for the next: 4, 4, 3 and 0, 0, 0
        MendHall z = Due.open("hall 30 2;sort 0 0;mender;skill 0 0 1;thing 0 0 4 0;thing 0 9 4 0",
                "take 0", "take 0");
        DUE.is("THING 0", z.look(5, 0), 0);
        DUE.is("gone by two", z.look(5, 1), 2);
        z.book(5, 0, 4);
        DUE.is("alike in both", z.look(5, 0), 0);
        DUE.is("gone by two", z.look(5, 1), 2);
        MendHall x = Due.open(HALL);
        DUE.is("none alone", x.look(3, 0), 0);
        DUE.is("1 alike", x.look(3, 1), 1);
        Due.rule(x, "take 1");
        DUE.is("alike in all", x.look(3, 0), 0);
        DUE.is("2 alike", x.look(3, 1), 2);
    }

    /** "-2: no RULE is so, or there are no THINGS. NONE without these, or a HALL." */
    private static void lookNoneIsSo() {
        Supplier<MendHall> none = () -> {
            MendHall x = Lived.midday();
            x.book(0, 0, 4);
            return x;
        };
        refused("look(0, 0), no RULE is so", none, x -> x.look(0, 0), -2);
        refused("look(399, 1), no RULE is so", none, x -> x.look(399, 1), -2);
        refused("look(400, 1), no RULE is so", none, x -> x.look(400, 1), -1);
        Supplier<MendHall> noThings = () -> Due.open("hall 9 9;sort 0 0;mender", "take 1");
        refused("look(0, 0) without THINGS", noThings, x -> x.look(0, 0), -2);
        refused("look(0, 1) without THINGS", noThings, x -> x.look(0, 1), -2);
        refused("look(0, 2) without THINGS", noThings, x -> x.look(0, 2), -1);
    }

    /** "x (0 to 2147483647; 0 at first)"; promise 29: "NONE, and nothing happens, below 0" */
    private static void seedFrom0() {
        MendHall x = new MendHall();
        DUE.is("0 at first", x.count(15), 0);
        DUE.is("what it was", x.seed(2147483647), 0);
        DUE.is("the most", x.count(15), 2147483647);
        DUE.is("what it was", x.seed(1), 2147483647);
        DUE.is("what it was", x.seed(0), 1);
        DUE.is("the least", x.count(15), 0);
        for (int bad : new int[] {-1, -2, Integer.MIN_VALUE}) {
            refused("seed(" + bad + ")", Lived::midday, y -> y.seed(bad), -1);
            refused("seed(" + bad + ") without a HALL", MendHall::new, y -> y.seed(bad), -1);
        }
    }

    /** How late the one THING is by the first DRAW, of 0 to p: told by which of p halls still mends it. */
    private static int lateness(int seed, int p) {
        int late = 0;
        for (int end = 1; end <= p; end++) {
            MendHall x = Due.open("hall " + end + " 300;sort 0 0;mender;skill 0 0 1;thing 0 0 1 0");
            x.seed(seed);
            late += x.saturdays(1, p, 1);
        }
        return late;
    }

    /** "becomes x * 1103515245 + 12345, of 2147483648 the rest; a DRAW is x / 65536", mod (p + 1). */
    private static void drawsGoRound() {
        // from 0 on x becomes 12345: a DRAW of 0; from 1 on 1103527590: 16838
        DUE.is("0", lateness(0, 60), 0);
        DUE.is("1", lateness(1, 60), 16838 % 61);
        DUE.is("1", lateness(1, 1), 0);
        DUE.is("1", lateness(1, 9), 8);
        // from 2147483647 on 12345 - 1103515245, and 2147483648 more: 1043980748, a DRAW of 15929
        DUE.is("the most", lateness(2147483647, 60), 15929 % 61);
        DUE.is("the most", lateness(2147483647, 59), 15929 % 60);
        // from 2147483646 on twice as much is taken away: 2087949148 of them are left, a DRAW of 31859
        DUE.is("one less", lateness(2147483646, 60), (int) ((2147483646L * 1103515245L + 12345L)
                % 2147483648L / 65536) % 61);
    }

    private static void noSaturdays(int m, int p, int what) {
        refused("saturdays(" + m + ", " + p + ", " + what + ")", Lived::midday,
                x -> x.saturdays(m, p, what), -1);
    }

    /** "SATURDAYS m times (1 to 10)" */
    private static void saturdays1To10() {
        MendHall x = Due.open("hall 9 9;sort 0 0;mender;skill 0 0 5;thing 0 0 7 0;thing 0 9 7 0");
        for (int m = 1; m <= 10; m++) {
            DUE.is("SAVED in " + m, x.saturdays(m, 0, 0), 7 * m);
            DUE.is("gone in " + m, x.saturdays(m, 0, 1), m);
        }
        for (int bad : new int[] {0, -1, 11, 12, BEYOND[0], BEYOND[1]}) {
            noSaturdays(bad, 0, 0);
            noSaturdays(bad, 60, 1);
        }
        refused("saturdays(1, 0, 0) without a HALL", MendHall::new, y -> y.saturdays(1, 0, 0), -1);
        refused("saturdays(10, 60, 1) without a HALL", MendHall::new, y -> y.saturdays(10, 60, 1), -1);
    }

    /** "late by p (0 to 60)" */
    private static void lateBy0To60() {
        // 0: each comes as told; 60: none later than 60 behind it
        for (int seed : new int[] {0, 1, 5, 4711, 2147483647}) {
            MendHall x = Due.open("hall 61 300;sort 0 0;mender;mender;mender;mender;skill 0 0 1;skill 1 0 1;"
                    + "skill 2 0 1;skill 3 0 1" + ";thing 0 0 1 0".repeat(4));
            x.seed(seed);
            DUE.is("60 at most", x.saturdays(10, 60, 0), 40);
            MendHall y = Due.open("hall 1 300;sort 0 0;mender;mender;mender;mender;skill 0 0 1;skill 1 0 1;"
                    + "skill 2 0 1;skill 3 0 1" + ";thing 0 0 1 0".repeat(4));
            y.seed(seed);
            DUE.is("as told", y.saturdays(10, 0, 0), 40);
        }
        int late = 0;
        for (int seed = 0; seed < 400; seed++) {
            late = Math.max(late, lateness(seed * 1000, 60));
        }
        DUE.is("60, now and then", late, 60);
        for (int bad : new int[] {-1, -2, 61, 62, BEYOND[0], BEYOND[1]}) {
            noSaturdays(1, bad, 0);
            noSaturdays(10, bad, 1);
        }
    }

    private static void saturdaysWhat0To1() {
        for (int bad : new int[] {-1, 2, 3, BEYOND[0], BEYOND[1]}) {
            noSaturdays(1, 0, bad);
        }
    }

    /** "(x as it was)": each call draws the same, and one of m is the same as m one behind another. */
    private static void saturdaysXAsItWas() {
        String hall = "hall 20 5;sort 0 0;mender;skill 0 0 3;thing 0 0 1 0;thing 0 3 2 0;thing 0 5 4 0";
        MendHall x = Due.open(hall);
        x.seed(77);
        int five = x.saturdays(5, 20, 0);
        DUE.is("once more", x.saturdays(5, 20, 0), five);
        DUE.is("x", x.count(15), 77);
        long drawn = 77;
        int sum = 0;
        for (int m = 0; m < 5; m++) {
            MendHall y = Due.open(hall);
            y.seed((int) drawn);
            sum += y.saturdays(1, 20, 0);
            for (int thing = 0; thing < 3; thing++) {
                drawn = (drawn * 1103515245L + 12345L) % 2147483648L;
            }
        }
        DUE.is("one behind another", five, sum);
    }

    /** "from the begin on, all as the text told it"; by the RULE IN FORCE. */
    private static void saturdaysFromTheBeginOn() {
        String hall = "hall 20 5;sort 0 1;mender;skill 0 0 9;thing 0 0 1 1;thing 0 0 2 1";
        MendHall x = Due.open(hall, "take worth");
        DUE.is("by none", x.saturdays(1, 0, 0), 1);
        x.bring(0);
        x.coffee(0, 60);
        Due.minutes(x, 12);
        DUE.is("whatever is done", x.saturdays(1, 0, 0), 1);
        DUE.is("whatever is done", x.saturdays(1, 0, 1), 1);
        x.force(0);
        DUE.is("by RULE 0", x.saturdays(1, 0, 0), 2);
        DUE.is("the minute stays", x.count(7), 12);
    }

    /** "IMAGES 0 to 3"; promise 32: "NONE without it"; promise 33: "or without it" */
    private static void images0To3() {
        MendHall x = Due.open(HALL);
        for (int k = 0; k < 4; k++) {
            DUE.is("image(" + k + ")", x.image(k), k);
            x.minute();
        }
        for (int k = 3; k >= 0; k--) {
            DUE.is("back(" + k + ")", x.back(k), k);
            DUE.is("the minute", x.count(7), k);
        }
        for (int bad : new int[] {-1, -2, 4, 5, BEYOND[0], BEYOND[1]}) {
            refused("image(" + bad + ")", Lived::midday, y -> y.image(bad), -1);
            refused("back(" + bad + ")", Lived::midday, y -> y.back(bad), -1);
            refused("image(" + bad + ") without a HALL", MendHall::new, y -> y.image(bad), -1);
            refused("back(" + bad + ") without a HALL", MendHall::new, y -> y.back(bad), -1);
        }
        DUE.is("without a HALL", new MendHall().image(0), 0);
    }

    /** Promise 33: "NONE, and nothing happens, if it was never made" */
    private static void imageNeverMade() {
        for (int k = 0; k < 4; k++) {
            int number = k;
            refused("back(" + k + ") without a HALL", MendHall::new, x -> x.back(number), -1);
        }
        refused("back(0)", Lived::midday, x -> x.back(0), -1);
        refused("back(2)", Lived::midday, x -> x.back(2), -1);
        MendHall x = Lived.midday();
        DUE.is("made", x.back(1), 4);
        DUE.is("never made", x.back(2), -1);
        DUE.is("never made", x.back(0), -1);
        DUE.is("the minute", x.count(7), 4);
    }

    /** "all .. as it is (the RULE IN FORCE, what can be UNDONE, too); gone back to, it is as it was" */
    private static void allAsItWas() {
        for (int k = 0; k < 4; k++) {
            int number = k;
            Supplier<MendHall> made = () -> {
                MendHall x = Lived.full();
                x.image(number);
                return x;
            };
            BOUNDS.alike("back(" + k + ")", made, x -> {
                x.force(1);
                x.seed(8);
                x.book(-1, 0, 0);
                x.book(1, 1, 1);
                x.putDown(1);
                x.coffee(0, 9);
                Due.minutes(x, 25);
                x.bring(0);
                x.bring(1);
                x.back(number);
            }, x -> { });
            BOUNDS.alike("back(" + k + ") from another HALL", made, x -> {
                x.back(3 - number == 2 || number == 3 ? 1 : 3);
                x.minute();
                x.back(number);
            }, x -> { });
        }
        // an IMAGE made anew is as it is then
        MendHall y = Due.open(HALL);
        y.image(0);
        y.minute();
        DUE.is("made anew", y.image(0), 1);
        y.minute();
        DUE.is("gone back to", y.back(0), 1);
        DUE.is("of an IMAGE without ACTS", y.undo(), 0);
    }

    /** "all but the RULES and the TAPE"; "(these stay)" */
    private static void rulesAndTapeStay() {
        MendHall x = Lived.midday();
        x.image(0);
        Due.rule(x, "take 5");
        Due.tell(x, "take 6");
        DUE.is("back(0)", x.back(0), 7);
        DUE.is("RULES", x.count(5), 4);
        DUE.is("the TAPE", x.count(16), 6);
        DUE.is("it is a RULE", x.rule(), 4);
        DUE.is("the new ones can be forced", x.force(4), 2);
        DUE.is("the RULE IN FORCE", x.back(0) * 10 + x.count(6), 72);
    }

    /** An IMAGE is no part of another: gone back to the first, the second can be gone back to. */
    private static void imagesStay() {
        MendHall x = Due.open(HALL);
        x.image(0);
        x.minute();
        x.image(1);
        DUE.is("back(0)", x.back(0), 0);
        DUE.is("back(1)", x.back(1), 1);
        Due.hall(x, "hall 9 9");
        DUE.is("from another HALL", x.back(0), 0);
        DUE.is("THINGS", x.count(4), 3);
    }
}
