/** Promises 29 (seed) and 30 (saturdays). */
public final class SaturdaysTest {
    private static final Due DUE = new Due("SaturdaysTest");

    public static void main(String[] args) {
        seed();
        wrong();
        draws();
        asTold();
        DUE.finish();
    }

    private static void seed() {
        MendHall x = new MendHall();
        DUE.is("0 at first", x.seed(5), 0);
        DUE.is("what it was", x.seed(2147483647), 5);
        DUE.is("below 0", x.seed(-1), -1);
        DUE.is("below 0", x.seed(Integer.MIN_VALUE), -1);
        DUE.is("count(15)", x.count(15), 2147483647);
        DUE.is("what it was", x.seed(0), 2147483647);
        DUE.is("count(15)", x.count(15), 0);
    }

    private static void wrong() {
        MendHall none = new MendHall();
        DUE.is("without a HALL", none.saturdays(1, 0, 0), -1);
        MendHall x = Due.open("hall 30 12;sort 0 0;mender;skill 0 0 5;thing 0 0 4 0");
        for (int[] bad : new int[][] {{0, 0, 0}, {11, 0, 0}, {-1, 0, 0}, {1, -1, 0}, {1, 61, 0},
            {1, 0, -1}, {1, 0, 2}, {Integer.MAX_VALUE, 0, 0}, {1, Integer.MAX_VALUE, 0},
            {1, Integer.MIN_VALUE, 1}, {1, 0, Integer.MAX_VALUE}}) {
            DUE.is("saturdays" + bad[0] + " " + bad[1] + " " + bad[2],
                    x.saturdays(bad[0], bad[1], bad[2]), -1);
        }
        DUE.is("one", x.saturdays(1, 0, 0), 4);
        DUE.is("ten", x.saturdays(10, 0, 0), 40);
        DUE.is("none is gone", x.saturdays(10, 60, 1) + x.saturdays(10, 60, 0) / 4, 10);
    }

    /**
     * What comes before END 10 is MENDED at once, the others are gone: so the DRAWS can be counted.
     * WORTH 1, 2, 4 and so on tell of one SATURDAY which THINGS came before END.
     */
    private static void draws() {
        String text = "hall 10 300;sort 0 0;mender;mender;mender;mender;skill 0 0 1;skill 1 0 1;"
                + "skill 2 0 1;skill 3 0 1;thing 0 0 1 0;thing 0 0 2 0;thing 0 0 4 0;thing 0 0 8 0;"
                + "thing 0 0 16 0";
        for (int seed : new int[] {0, 1, 77, 123456789, 2147483647}) {
            for (int p : new int[] {0, 1, 9, 10, 20, 60}) {
                MendHall x = Due.open(text);
                x.seed(seed);
                long drawn = seed;
                int saved = 0;
                int gone = 0;
                for (int m = 1; m <= 10; m++) {
                    for (int thing = 0; thing < 5; thing++) {
                        drawn = (drawn * 1103515245L + 12345L) % 2147483648L;
                        boolean comes = drawn / 65536 % (p + 1) < 10;
                        saved += comes ? 1 << thing : 0;
                        gone += comes ? 0 : 1;
                    }
                    // of five at once the fifth is MENDED in the next minute, or goes at END
                    int got = x.saturdays(m, p, 0);
                    DUE.is("SAVED " + seed + " " + p + " " + m, got, saved);
                    DUE.is("gone " + seed + " " + p + " " + m, x.saturdays(m, p, 1), gone);
                }
                DUE.is("x as it was", x.count(15), seed);
            }
        }
        // by hand: from 0 the DRAWS are 0, 21468, 9988, 22117
        MendHall y = Due.open("hall 10 300;sort 0 0;mender;skill 0 0 1;thing 0 9 1 0;thing 0 9 2 0;"
                + "thing 0 8 4 0;thing 0 9 8 0");
        // mod 2: 0, 0, 0, 1; COME 9, 9, 8, 10: in minute 9 the first alone is taken
        DUE.is("SAVED", y.saturdays(1, 1, 0), 5);
        DUE.is("gone", y.saturdays(1, 1, 1), 2);
    }

    private static void asTold() {
        MendHall x = Due.open("hall 30 12;sort 0 1;mender;skill 0 0 5;thing 0 0 4 1;thing 0 0 5 1",
                "take thing", "take 0");
        DUE.is("none IN FORCE", x.saturdays(2, 0, 0), 8);
        DUE.is("one is gone in each", x.saturdays(2, 0, 1), 2);
        x.force(0);
        DUE.is("by the RULE IN FORCE", x.saturdays(2, 0, 0), 10);
        x.force(1);
        DUE.is("by the RULE IN FORCE", x.saturdays(2, 0, 1), 4);
        x.force(-1);
        x.bring(0);
        x.coffee(0, 60);
        Due.minutes(x, 50);
        DUE.is("from the begin on", x.saturdays(2, 0, 0), 8);
        DUE.is("from the begin on", x.saturdays(2, 0, 1), 2);
        DUE.is("nothing changes", x.count(7), 50);
        DUE.is("nothing changes", x.thing(0, 1), 0);
        MendHall y = Due.open("hall 30 12");
        DUE.is("no THINGS", y.saturdays(10, 60, 0), 0);
        // late by 60 behind 299, and END 300: all come in 400 MINUTES, and go
        MendHall z = Due.open("hall 300 300;sort 0 0;thing 0 299 4 0;thing 0 299 5 0");
        DUE.is("all are gone", z.saturdays(10, 60, 1), 20);
    }
}
