import java.util.function.Supplier;

/** The bounds of promises 1 to 3 (the TAPE), 7 to 9 and 31 (what there is), sentence by sentence. */
public final class StateBoundsTest {
    private static final Due DUE = new Due("StateBoundsTest");
    private static final Bounds BOUNDS = new Bounds(DUE);
    private static final int[] FAR = {-2, -1000, 100, Integer.MAX_VALUE, Integer.MIN_VALUE};

    public static void main(String[] args) {
        newObject();
        twoObjects();
        feedTwentyBytes();
        feedTheHighestFirst();
        feed400AtMost();
        endOfSoMany();
        endNotSoMany();
        thingWithoutThese();
        thingHowItIs();
        thingWhenItWasMended();
        menderWithoutThese();
        menderSoFar();
        menderNoSkill();
        sortWithoutThese();
        sortAtHand();
        countForOthers();
        countWithoutAHall();
        countOfEach();
        DUE.finish();
    }

    /** Promise 1: "No HALL, no RULES, none IN FORCE." */
    private static void newObject() {
        MendHall x = new MendHall();
        DUE.is("none IN FORCE", x.count(6), -1);
        DUE.is("no RULES", x.count(5), 0);
        DUE.is("no RULES", x.force(0), -2);
        DUE.is("no HALL", x.minute(), -1);
        DUE.is("no HALL", x.thing(0, 0), -2);
        DUE.is("no HALL", x.mender(0, 0), -2);
        DUE.is("no HALL", x.sort(0, 0), -1);
        DUE.is("no HALL", x.match(0), -3);
        DUE.is("no ACTS", x.undo(), -2);
        DUE.is("no IMAGES", x.back(0), -1);
        DUE.is("no TAPE", x.end(1), -1);
        DUE.is("NONE", MendHall.NONE, -1);
    }

    /** What one object is told another one does not know. */
    private static void twoObjects() {
        MendHall x = new MendHall();
        MendHall y = Lived.full();
        String otherwise = Shown.takenApart(x).otherThan(Shown.takenApart(new MendHall()));
        DUE.holds("as new " + otherwise, otherwise.isEmpty());
        otherwise = Shown.takenApart(y).otherThan(Shown.takenApart(Lived.full()));
        DUE.holds("as full " + otherwise, otherwise.isEmpty());
    }

    /** Promise 2: "Twenty bytes come behind the TAPE .. how many it has" */
    private static void feedTwentyBytes() {
        MendHall x = new MendHall();
        for (int n = 20; n <= 400; n += 20) {
            DUE.is("feed()", x.feed(-1, 0, 1, Integer.MAX_VALUE, Integer.MIN_VALUE), n);
            DUE.is("count(16)", x.count(16), n);
        }
        // behind what was there
        MendHall y = new MendHall();
        y.feed(0x68616c6c, 0x20310000, 0, 0, 0);
        y.end(6);
        DUE.is("behind 6", y.feed(0x30302031, 0x32303b6d, 0x656e6465, 0x723b6d65, 0x6e646572), 26);
        DUE.is("hall 100 120;mender;mender", y.hall(), 0);
        DUE.is("END", y.count(0), 100);
        DUE.is("WAIT", y.count(1), 120);
        DUE.is("MENDERS", y.count(3), 2);
    }

    /** "of each number the highest first", those with the highest bit set, too. */
    private static void feedTheHighestFirst() {
        MendHall x = new MendHall();
        x.feed(0x68616c6c, 0x37203b20, 0, 0, 0);
        x.end(6);
        DUE.is("the end behind hall7 and a blank", x.hall(), Due.fault(6, 0));
        // a byte that can't stand there: within the WORD hall this is another WORD, behind it its own place
        for (int at = 0; at < 20; at++) {
            for (int odd : new int[] {0, 127, 128, 255}) {
                int[] five = {0x68616c6c, 0x20202020, 0x20202020, 0x20202020, 0x20202020};
                int shift = 24 - at % 4 * 8;
                five[at / 4] = five[at / 4] & ~(255 << shift) | odd << shift;
                x.feed(five[0], five[1], five[2], five[3], five[4]);
                DUE.is(odd + " at " + at, x.hall(), Due.fault(at < 4 ? 0 : at, 0));
            }
        }
    }

    /** "NONE, and none comes, if it would have more than 400" */
    private static void feed400AtMost() {
        for (int length : new int[] {381, 390, 399, 400}) {
            Supplier<MendHall> made = () -> {
                MendHall x = Lived.midday();
                Due.tell(x, "take 1;" + " ".repeat(392 - 7) + "take x  ");
                x.end(length);
                return x;
            };
            BOUNDS.refused("feed() behind " + length, made,
                    x -> x.feed(0x20202020, 0x20202020, 0x20202020, 0x20202020, 0x20202020), -1);
        }
        MendHall x = new MendHall();
        Due.tell(x, " ".repeat(400));
        for (int length : new int[] {380, 379, 0}) {
            x.end(length);
            DUE.is("feed() behind " + length, x.feed(0, 0, 0, 0, 0), length + 20);
            Due.tell(x, " ".repeat(400));
        }
    }

    /** Promise 3: "The TAPE has its first n bytes alone: n" */
    private static void endOfSoMany() {
        MendHall x = new MendHall();
        DUE.is("0 of 0", x.end(0), 0);
        Due.tell(x, "hall 12 34;mender;sort");
        for (int n : new int[] {22, 22, 21, 17, 17, 10, 9}) {
            DUE.is("end(" + n + ")", x.end(n), n);
            DUE.is("count(16)", x.count(16), n);
        }
        DUE.is("hall 12 3", x.hall(), 0);
        DUE.is("WAIT", x.count(1), 3);
        Due.tell(x, "hall 12 34;mender;sort");
        DUE.is("none", x.end(0), 0);
        DUE.is("the end", x.hall(), Due.fault(0, 0));
        Due.tell(x, " ".repeat(400));
        DUE.is("400 of 400", x.end(400), 400);
        DUE.is("1 of 400", x.end(1), 1);
        DUE.is("1 blank", x.hall(), Due.fault(1, 0));
    }

    /** "NONE, and nothing happens, if it has not so many, or n is below 0" */
    private static void endNotSoMany() {
        for (int bad : new int[] {-1, -2, 21, 22, 400, 401, Integer.MAX_VALUE, Integer.MIN_VALUE}) {
            BOUNDS.refused("end(" + bad + ") of 20", Lived::midday, x -> x.end(bad), -1);
        }
        for (int bad : new int[] {-1, 1, 2, 400, Integer.MAX_VALUE, Integer.MIN_VALUE}) {
            BOUNDS.refused("end(" + bad + ") of 0", MendHall::new, x -> x.end(bad), -1);
        }
        Supplier<MendHall> full = () -> {
            MendHall x = Lived.midday();
            Due.tell(x, "take 1;" + " ".repeat(393));
            return x;
        };
        BOUNDS.refused("end(401) of 400", full, x -> x.end(401), -1);
        BOUNDS.refused("end(9) of 8", () -> {
            MendHall x = full.get();
            x.end(8);
            return x;
        }, x -> x.end(9), -1);
    }

    /** Promise 7: "-2 without these" */
    private static void thingWithoutThese() {
        for (int what = 0; what < 6; what++) {
            int w = what;
            DUE.holds("the last THING", Lived.midday().thing(5, w) >= -1);
            BOUNDS.refused("thing(-1, " + w + ")", Lived::midday, x -> x.thing(-1, w), -2);
            BOUNDS.refused("thing(6, " + w + ")", Lived::midday, x -> x.thing(6, w), -2);
            BOUNDS.refused("thing(7, " + w + ")", Lived::midday, x -> x.thing(7, w), -2);
            BOUNDS.refused("thing(0, " + w + ") without a HALL", MendHall::new, x -> x.thing(0, w), -2);
        }
        BOUNDS.refused("thing(0, -1)", Lived::midday, x -> x.thing(0, -1), -2);
        BOUNDS.refused("thing(0, 6)", Lived::midday, x -> x.thing(0, 6), -2);
        for (int bad : FAR) {
            BOUNDS.refused("thing(" + bad + ", 0)", Lived::midday, x -> x.thing(bad, 0), -2);
            BOUNDS.refused("thing(0, " + bad + ")", Lived::midday, x -> x.thing(0, bad), -2);
        }
    }

    /** "4: how it is (0 to 4)" */
    private static void thingHowItIs() {
        MendHall x = Lived.midday();
        int[] midday = {2, 1, 3, 0, 1, 1};
        for (int thing = 0; thing < 6; thing++) {
            DUE.is("midday, " + thing, x.thing(thing, 4), midday[thing]);
        }
        Due.minutes(x, 20);
        int[] evening = {3, 4, 3, 4, 4, 3};
        for (int thing = 0; thing < 6; thing++) {
            DUE.is("evening, " + thing, x.thing(thing, 4), evening[thing]);
        }
    }

    /** "5: the minute in which it was MENDED (NONE)": 0 at least. */
    private static void thingWhenItWasMended() {
        MendHall x = Due.open("hall 9 9;sort 0 0;mender;skill 0 0 1;thing 0 0 1 0;thing 0 0 1 0;thing 0 9 1 0");
        DUE.is("before", x.thing(0, 5), -1);
        Due.minutes(x, 2);
        DUE.is("in minute 0", x.thing(0, 5), 0);
        DUE.is("in minute 1", x.thing(1, 5), 1);
        DUE.is("not", x.thing(2, 5), -1);
        Due.minutes(x, 9);
        DUE.is("gone", x.thing(2, 5), -1);
        DUE.is("as it was", x.thing(0, 5), 0);
    }

    /** Promise 8: "-2 without these" */
    private static void menderWithoutThese() {
        for (int what = 0; what < 8; what++) {
            int w = what;
            DUE.holds("the last MENDER", Lived.midday().mender(2, w) >= -1);
            BOUNDS.refused("mender(-1, " + w + ")", Lived::midday, x -> x.mender(-1, w), -2);
            BOUNDS.refused("mender(3, " + w + ")", Lived::midday, x -> x.mender(3, w), -2);
            BOUNDS.refused("mender(4, " + w + ")", Lived::midday, x -> x.mender(4, w), -2);
            BOUNDS.refused("mender(0, " + w + ") without a HALL", MendHall::new, x -> x.mender(0, w), -2);
        }
        BOUNDS.refused("mender(0, -1)", Lived::midday, x -> x.mender(0, -1), -2);
        BOUNDS.refused("mender(0, 8)", Lived::midday, x -> x.mender(0, 8), -2);
        for (int bad : FAR) {
            BOUNDS.refused("mender(" + bad + ", 0)", Lived::midday, x -> x.mender(bad, 0), -2);
            BOUNDS.refused("mender(0, " + bad + ")", Lived::midday, x -> x.mender(0, bad), -2);
        }
    }

    /** "0: the THING they mend (NONE: free), 1: minutes to go, 2: minutes of COFFEE, 3: idle so far" */
    private static void menderSoFar() {
        MendHall x = Lived.midday();
        int[][] midday = {{-1, 0, 0, 3}, {0, 3, 0, 0}, {-1, 0, 13, 7}};
        for (int mender = 0; mender < 3; mender++) {
            for (int what = 0; what < 4; what++) {
                DUE.is("mender(" + mender + ", " + what + ")", x.mender(mender, what), midday[mender][what]);
            }
        }
    }

    /** "4 to 7: MINUTES for the SORT less 4 (NONE: no skill, or no such SORT)" */
    private static void menderNoSkill() {
        MendHall x = Lived.midday();
        int[][] skills = {{3, -1, -1, -1}, {9, 4, -1, -1}, {-1, 5, -1, -1}};
        for (int mender = 0; mender < 3; mender++) {
            for (int sort = 0; sort < 4; sort++) {
                DUE.is("mender(" + mender + ", " + (4 + sort) + ")", x.mender(mender, 4 + sort),
                        skills[mender][sort]);
            }
        }
        MendHall y = Due.open("hall 9 9;sort 0 0;sort 0 0;sort 0 0;sort 0 0;mender;mender;mender;mender;"
                + "skill 3 3 60;skill 0 0 1");
        DUE.is("the last of the last", y.mender(3, 7), 60);
        DUE.is("the first of the first", y.mender(0, 4), 1);
        DUE.is("no skill", y.mender(2, 7), -1);
        DUE.is("no skill", y.mender(3, 6), -1);
        DUE.is("no skill", y.mender(0, 5), -1);
    }

    /** Promise 9: "NONE without these" */
    private static void sortWithoutThese() {
        for (int what = 0; what < 2; what++) {
            int w = what;
            BOUNDS.refused("sort(-1, " + w + ")", Lived::midday, x -> x.sort(-1, w), -1);
            BOUNDS.refused("sort(2, " + w + ")", Lived::midday, x -> x.sort(2, w), -1);
            BOUNDS.refused("sort(4, " + w + ")", Lived::midday, x -> x.sort(4, w), -1);
            BOUNDS.refused("sort(0, " + w + ") without a HALL", MendHall::new, x -> x.sort(0, w), -1);
        }
        BOUNDS.refused("sort(0, -1)", Lived::midday, x -> x.sort(0, -1), -1);
        BOUNDS.refused("sort(0, 2)", Lived::midday, x -> x.sort(0, 2), -1);
        for (int bad : FAR) {
            BOUNDS.refused("sort(" + bad + ", 0)", Lived::midday, x -> x.sort(bad, 0), -1);
            BOUNDS.refused("sort(0, " + bad + ")", Lived::midday, x -> x.sort(0, bad), -1);
        }
    }

    /** "0: LOOK, 1: PARTS at hand" */
    private static void sortAtHand() {
        MendHall x = Lived.midday();
        DUE.is("LOOK of the first", x.sort(0, 0), 1);
        DUE.is("both parts are used up", x.sort(0, 1), 0);
        DUE.is("LOOK of the last", x.sort(1, 0), 0);
        DUE.is("none told", x.sort(1, 1), 0);
        x.bring(1);
        DUE.is("one brought", x.sort(1, 1), 1);
    }

    /** Promise 31: "NONE for others" */
    private static void countForOthers() {
        for (int bad : new int[] {-1, 17, 18, -2, Integer.MAX_VALUE, Integer.MIN_VALUE}) {
            BOUNDS.refused("count(" + bad + ")", Lived::midday, x -> x.count(bad), -1);
            BOUNDS.refused("count(" + bad + ") of a new one", MendHall::new, x -> x.count(bad), -1);
        }
    }

    private static void countWithoutAHall() {
        MendHall x = new MendHall();
        for (int what = 0; what <= 16; what++) {
            DUE.is("count(" + what + ")", x.count(what), what == 6 ? -1 : 0);
        }
        Due.rule(x, "take 1");
        x.force(0);
        x.seed(5);
        x.feed(1, 2, 3, 4, 5);
        DUE.is("RULES", x.count(5), 1);
        DUE.is("the RULE IN FORCE", x.count(6), 0);
        DUE.is("x", x.count(15), 5);
        DUE.is("the TAPE", x.count(16), 20);
        x.end(0);
        x.hall();
        DUE.is("END", x.count(0), 0);
        DUE.is("no HALL still", x.minute(), -1);
    }

    /** Each of the 17, and at its most where a run of calls gets it there. */
    private static void countOfEach() {
        int[] midday = {24, 8, 2, 3, 6, 3, 2, 7, 50, 1, 4, 0, 9, 2, 8, 4711, 20};
        int[] full = {24, 8, 2, 3, 6, 6, 2, 7, 50, 1, 4, 0, 9, 10, 20, 4711, 19};
        MendHall x = Lived.midday();
        MendHall y = Lived.full();
        for (int what = 0; what <= 16; what++) {
            DUE.is("count(" + what + ") of midday", x.count(what), midday[what]);
            DUE.is("count(" + what + ") of full", y.count(what), full[what]);
        }
        String seven = "hall 300 300;sort 0 0;sort 0 0;sort 0 0;sort 0 0;mender;mender;mender;mender"
                + ";thing 0 0 30 0".repeat(7);
        MendHall z = Due.open(seven, "take 1", "take 1", "take 1", "take 1", "take 1", "take 1");
        z.force(5);
        z.seed(Integer.MAX_VALUE);
        z.minute();
        int[] most = {300, 300, 4, 4, 7, 6, 5, 1, 127, 0, 0, 0, 0, 0, 1, Integer.MAX_VALUE, 0};
        for (int what = 0; what <= 16; what++) {
            DUE.is("count(" + what + ") at most", z.count(what), most[what]);
        }
        Due.hall(z, seven + ";skill 0 0 1;skill 1 0 1;skill 2 0 1;skill 3 0 1");
        Due.minutes(z, 2);
        DUE.is("MENDED at most", z.count(10), 127);
        DUE.is("SAVED at most", z.count(12), 210);
        Due.hall(z, seven);
        Due.minutes(z, 301);
        DUE.is("gone at most", z.count(11), 127);
        DUE.is("none waits", z.count(8), 0);
    }
}
