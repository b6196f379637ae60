import java.util.function.ToIntFunction;

/** The bounds of a HALL (part I, up to the RULES, and promise 4), sentence by sentence. */
public final class HallBoundsTest {
    private static final Due DUE = new Due("HallBoundsTest");
    private static final Bounds BOUNDS = new Bounds(DUE);
    /** One of each, so that any CLAUSE can come behind it; 48 bytes. */
    private static final String HEAD = "hall 50 20;sort 2 1;mender;skill 0 0 9;sort 0 0;";

    public static void main(String[] args) {
        textOf400Bytes();
        fortyClauses();
        hallIsTheFirstClause();
        hallOnce();
        endIs1To300();
        waitIs1To300();
        lookIs0To9();
        partsAre0To9();
        skillOfAMenderThatWasTold();
        skillOfASortThatWasTold();
        skillMinutesAre1To60();
        ofTheSameTwoTheLastTold();
        noneWithout();
        thingOfASortThatWasTold();
        comeIs0To299();
        worthIs1To30();
        needsIs0Or1();
        fourSorts();
        fourMenders();
        sevenThings();
        inTheOrderTold();
        minute0AndAllAreFree();
        hallInPlaceOfTheOneThereWas();
        theEndBehindTheLastByte();
        theFirstAlongTheText();
        ofOnePlaceTheLeast();
        DUE.finish();
    }

    /** The text with this number where # stands is a HALL, and shows it. */
    private static void taken(String text, int number, ToIntFunction<MendHall> shows) {
        MendHall x = Due.open(text.replace("#", "" + number));
        DUE.is("shown behind " + text + " with " + number, shows.applyAsInt(x), number);
        DUE.is("the TAPE is empty behind " + text, x.count(16), 0);
    }

    private static void refused(String text, String number, int why) {
        BOUNDS.fault(text.replace("#", number), true, Lived::midday, text.indexOf('#'), why);
    }

    /** The least and the most are taken, what is beyond is not as told. */
    private static void bound(String text, int least, int most, ToIntFunction<MendHall> shows) {
        taken(text, least, shows);
        taken(text, most, shows);
        refused(text, least > 0 ? "" + (least - 1) : "-1", least > 0 ? 1 : 0);
        refused(text, "" + (most + 1), 1);
        refused(text, "99999", 1);
        refused(text, "x", 0);
        if (most > 0) {
            taken(text.replace("#", "00#"), most, shows);
        }
        refused(text, "000001", 1);
        refused(text, "000000", 1);
        refused(text, "100000", 1);
    }

    private static void fault(String text, int place, int why) {
        BOUNDS.fault(text, true, Lived::midday, place, why);
    }

    /** "A HALL is a text of at most 400 bytes" */
    private static void textOf400Bytes() {
        MendHall x = new MendHall();
        String text = HEAD + " ".repeat(400 - HEAD.length() - 14) + "thing 0 5 7 01";
        Due.tell(x, text);
        DUE.is("400 bytes", x.count(16), 400);
        DUE.is("no more come", x.feed(0x20202020, 0x20202020, 0x20202020, 0x20202020, 0x20202020), -1);
        DUE.is("400 bytes are a HALL", x.hall(), 1);
        DUE.is("to the last of them", x.thing(0, 3), 1);
        Due.tell(x, text.substring(0, 398) + ";");
        DUE.is("399 bytes, the end behind the last", x.hall(), Due.fault(398, 0));
        Due.tell(x, text.substring(0, 398) + " ;");
        DUE.is("400 bytes, the end behind the last", x.hall(), Due.fault(399, 0));
        Due.tell(x, text.substring(0, 399) + "2");
        DUE.is("a FAULT in the last NUMBER", x.hall(), Due.fault(398, 1));
        Due.tell(x, "hall 1 1" + " ".repeat(392));
        DUE.is("all behind it blank", x.hall(), 0);
        Due.tell(x, " ".repeat(400));
        DUE.is("all blank", x.hall(), Due.fault(400, 0));
    }

    /** "40 at most": 400 bytes hold 39 of the shortest that there can be, and a ; behind these. */
    private static void fortyClauses() {
        StringBuilder text = new StringBuilder("hall1 1;sort0 0;sort0 0;sort0 0;sort0 0;"
                + "mender;mender;mender;mender");
        for (int n = 9; n < 39; n++) {
            text.append(";skill0 0 ").append(n % 9 + 1);
        }
        MendHall x = Due.open(text.toString());
        DUE.is("the 39th counts", x.mender(0, 4), 38 % 9 + 1);
        DUE.is("40 would need", text.length() + ";skill0 0 1".length(), 408);
        fault(text + ";", 398, 0);
        fault(text + ";;", 398, 0);
        fault(text + ";ab", 398, 0);
    }

    /** "hall .. the first CLAUSE"; "another CLAUSE ahead of it" */
    private static void hallIsTheFirstClause() {
        DUE.is("first", Due.hall(new MendHall(), "hall 1 1"), 0);
        DUE.is("first behind blanks", Due.hall(new MendHall(), "   hall 1 1"), 0);
        fault("mender;hall 1 1", 0, 4);
        fault("sort 0 0;hall 1 1", 0, 4);
        fault("skill 0 0 1;hall 1 1", 0, 4);
        fault(" thing 0 0 1 0;hall 1 1", 1, 4);
        fault(";hall 1 1", 0, 0);
        fault("halls;hall 1 1", 0, 0);
        fault("menders;hall 1 1", 0, 0);
    }

    /** "hall .. once"; "a second hall" */
    private static void hallOnce() {
        fault("hall 1 1;hall 1 1", 9, 4);
        fault("hall 1 1; hall", 10, 4);
        fault("hall 1 1;mender;sort 0 0;hall 2 2", 25, 4);
        fault("hall 1 1;halls", 9, 0);
    }

    private static void endIs1To300() {
        bound("hall # 20;mender", 1, 300, x -> x.count(0));
    }

    private static void waitIs1To300() {
        bound("hall 50 #;mender", 1, 300, x -> x.count(1));
    }

    private static void lookIs0To9() {
        bound(HEAD + "sort # 3", 0, 9, x -> x.sort(2, 0));
    }

    private static void partsAre0To9() {
        bound(HEAD + "sort 3 #;mender", 0, 9, x -> x.sort(2, 1));
    }

    /** "a MENDER .. that were told": those ahead of the CLAUSE. */
    private static void skillOfAMenderThatWasTold() {
        String text = HEAD + "mender;mender;skill # 1 7;mender";
        for (int mender = 0; mender < 3; mender++) {
            MendHall x = Due.open(text.replace("#", "" + mender));
            for (int other = 0; other < 4; other++) {
                DUE.is("skill of " + other, x.mender(other, 5), other == mender ? 7 : -1);
            }
        }
        refused(text, "3", 1);
        refused(text, "4", 1);
        refused(text, "-1", 0);
        fault("hall 1 1;sort 0 0;skill 0 0 1;mender", 24, 1);
        fault("hall 1 1;skill 0 0 1", 15, 1);
    }

    /** "a SORT that were told" */
    private static void skillOfASortThatWasTold() {
        String text = "hall 9 9;sort 0 0;sort 0 0;sort 0 0;mender;skill 0 # 7;sort 0 0";
        for (int sort = 0; sort < 3; sort++) {
            MendHall x = Due.open(text.replace("#", "" + sort));
            for (int other = 0; other < 4; other++) {
                DUE.is("skill for " + other, x.mender(0, 4 + other), other == sort ? 7 : -1);
            }
        }
        refused(text, "3", 1);
        refused(text, "4", 1);
        refused(text, "-1", 0);
        fault("hall 1 1;mender;skill 0 0 1;sort 0 0", 24, 1);
    }

    private static void skillMinutesAre1To60() {
        bound(HEAD + "skill 0 1 #;mender", 1, 60, x -> x.mender(0, 5));
    }

    /** "of the same two the last told" */
    private static void ofTheSameTwoTheLastTold() {
        MendHall x = Due.open(HEAD + "mender;skill 0 0 60;skill 0 1 2;skill 1 0 3;skill 0 0 1");
        DUE.is("the last", x.mender(0, 4), 1);
        DUE.is("another SORT", x.mender(0, 5), 2);
        DUE.is("another MENDER", x.mender(1, 4), 3);
        DUE.is("it is had", Due.open(HEAD + "skill 0 0 1;thing 0 0 1 0").done(0), 2);
    }

    /** "none without" */
    private static void noneWithout() {
        MendHall x = Due.open(HEAD + "thing 1 0 1 0;mender");
        DUE.is("told", x.mender(0, 4), 9);
        DUE.is("not told", x.mender(0, 5), -1);
        DUE.is("not told", x.mender(1, 4), -1);
        DUE.is("no such SORT", x.mender(0, 6), -1);
        DUE.is("no such SORT", x.mender(0, 7), -1);
        DUE.is("so it is not mended", x.done(0), -2);
        DUE.is("nor can it be given", x.minute() + x.give(0, 0), -1);
    }

    private static void thingOfASortThatWasTold() {
        bound(HEAD + "thing # 0 1 0;sort 0 0", 0, 1, x -> x.thing(0, 0));
        fault("hall 1 1;thing 0 0 1 0;sort 0 0", 15, 1);
        DUE.is("the fourth", Due.open(HEAD + "sort 0 0;sort 0 0;thing 3 0 1 0").thing(0, 0), 3);
        fault(HEAD + "sort 0 0;sort 0 0;thing 4 0 1 0", 72, 1);
    }

    private static void comeIs0To299() {
        bound(HEAD + "thing 0 # 1 0;mender", 0, 299, x -> x.thing(0, 1));
    }

    private static void worthIs1To30() {
        bound(HEAD + "thing 0 0 # 0;mender", 1, 30, x -> x.thing(0, 2));
    }

    private static void needsIs0Or1() {
        bound(HEAD + "thing 0 0 1 #;mender", 0, 1, x -> x.thing(0, 3));
        refused(HEAD + "thing 0 0 1 #", "9", 1);
    }

    /** "SORTS 0 to 3"; "a fifth SORT .. (at its first byte)" */
    private static void fourSorts() {
        String four = "hall 9 9;sort 1 5;sort 2 6;sort 3 7;sort 4 8";
        MendHall x = Due.open(four + ";mender");
        DUE.is("four", x.count(2), 4);
        DUE.is("the fourth", x.sort(3, 0), 4);
        DUE.is("the fourth", x.sort(3, 1), 8);
        DUE.is("no fifth", x.sort(4, 0), -1);
        fault(four + ";sort 5 9", 45, 4);
        fault(four + ";  sort", 47, 4);
        fault(four + ";mender;sort 10 0", 52, 4);
        DUE.is("none", Due.open("hall 9 9").count(2), 0);
    }

    /** "MENDERS 0 to 3"; "a fifth .. MENDER" */
    private static void fourMenders() {
        String four = "hall 9 9;mender;mender;mender;mender";
        MendHall x = Due.open(four + ";sort 0 0;skill 3 0 6");
        DUE.is("four", x.count(3), 4);
        DUE.is("the fourth", x.mender(3, 4), 6);
        DUE.is("no fifth", x.mender(4, 0), -2);
        fault(four + ";mender", 37, 4);
        fault(four + ";sort 0 0;mender x", 46, 4);
        DUE.is("none", Due.open("hall 9 9").count(3), 0);
    }

    /** "THINGS 0 to 6"; "an eighth THING" */
    private static void sevenThings() {
        String seven = "hall 9 9;sort 0 0" + ";thing 0 0 1 0".repeat(6) + ";thing 0 3 2 1";
        MendHall x = new MendHall();
        DUE.is("seven", Due.hall(x, seven + ";mender"), 7);
        DUE.is("seven", x.count(4), 7);
        DUE.is("the seventh", x.thing(6, 1), 3);
        DUE.is("no eighth", x.thing(7, 1), -2);
        fault(seven + ";thing 0 0 1 0", seven.length() + 1, 4);
        fault(seven + ";thing", seven.length() + 1, 4);
        fault(seven + ";things", seven.length() + 1, 0);
        DUE.is("none", Due.hall(x, "hall 9 9;sort 0 0"), 0);
        DUE.is("six", Due.hall(x, seven.substring(0, seven.length() - 14)), 6);
    }

    private static void inTheOrderTold() {
        MendHall x = Due.open("hall 9 9;mender;sort 1 2;thing 0 5 6 1;mender;"
                + "sort 3 4;skill 1 0 7;thing 1 8 9 0;skill 0 1 2");
        DUE.is("SORT 0", x.sort(0, 0) * 10 + x.sort(0, 1), 12);
        DUE.is("SORT 1", x.sort(1, 0) * 10 + x.sort(1, 1), 34);
        DUE.is("THING 0", x.thing(0, 1) * 10 + x.thing(0, 2), 56);
        DUE.is("THING 1", x.thing(1, 1) * 10 + x.thing(1, 2), 89);
        DUE.is("MENDER 0", x.mender(0, 5), 2);
        DUE.is("MENDER 1", x.mender(1, 4), 7);
    }

    /** "It is minute 0; all MENDERS are free." */
    private static void minute0AndAllAreFree() {
        MendHall x = Lived.midday();
        DUE.is("minute 7", x.count(7), 7);
        Due.hall(x, "hall 9 9;sort 0 4;mender;mender;mender;mender;skill 0 0 9;thing 0 0 1 1");
        DUE.is("minute 0", x.count(7), 0);
        for (int mender = 0; mender < 4; mender++) {
            DUE.is("free", x.mender(mender, 0), -1);
            DUE.is("nothing to go", x.mender(mender, 1), 0);
            DUE.is("not at COFFEE", x.mender(mender, 2), 0);
            DUE.is("not idle yet", x.mender(mender, 3), 0);
        }
        DUE.is("the THING of COME 0 has not come", x.thing(0, 4), 0);
        DUE.is("PARTS as told", x.sort(0, 1), 4);
    }

    /** Promise 4: "(no BOOKS, nothing to be UNDONE; the RULE IN FORCE and x stay)" */
    private static void hallInPlaceOfTheOneThereWas() {
        MendHall x = Lived.full();
        DUE.is("hall()", Due.hall(x, "hall 8 7"), 0);
        int[] want = {8, 7, 0, 0, 0, 6, 2, 0, 0, 0, 0, 0, 0, 0, 0, 4711, 0};
        for (int what = 0; what <= 16; what++) {
            DUE.is("count(" + what + ")", x.count(what), want[what]);
        }
        DUE.is("nothing to be UNDONE", x.undo(), -2);
        DUE.is("IMAGES stay", x.back(1), 4);
        DUE.is("END of the IMAGE", x.count(0), 24);
        // all is as if the HALL were told to a new object, but for what stays
        String text = HEAD + "thing 0 2 3 1;thing 1 0 9 0";
        MendHall y = Lived.midday();
        Due.hall(y, text);
        MendHall z = Due.open(text, "take worth", "take 9-thing if waited<5",
                "take queue if left>9 or parts=1");
        z.force(2);
        z.seed(4711);
        String otherwise = Shown.of(y).otherThan(Shown.of(z));
        DUE.holds("nothing is left of the other HALL " + otherwise, otherwise.isEmpty());
    }

    /** "0 .. the end (behind the last byte)": wherever more must come. */
    private static void theEndBehindTheLastByte() {
        String[] texts = {"", "hall", "hall 1", "hall 1 1;", "hall 1 1;sort", "hall 1 1;sort 0",
            "hall 1 1;sort 0 0;", "hall 1 1;mender;", "hall 1 1;sort 0 0;mender;skill",
            "hall 1 1;sort 0 0;mender;skill 0", "hall 1 1;sort 0 0;mender;skill 0 0",
            "hall 1 1;sort 0 0;thing", "hall 1 1;sort 0 0;thing 0", "hall 1 1;sort 0 0;thing 0 0",
            "hall 1 1;sort 0 0;thing 0 0 1"};
        for (String text : texts) {
            fault(text, text.length(), 0);
            fault(text + "  ", text.length() + 2, 0);
        }
    }

    /** "FAULTS, the first along the text": whatever stands behind it. */
    private static void theFirstAlongTheText() {
        fault("hall 0 0;foo;hall", 5, 1);
        fault("hall 1 0;foo;hall", 7, 1);
        fault("hall 1 1;foo;hall 0", 9, 0);
        fault("hall 1 1;hall 0;foo", 9, 4);
        fault("hall 1 1;mender;foo;hall", 16, 0);
        fault("hall 1 1;sort 10 10;sort 10 10", 14, 1);
        fault("hall 1 1;sort 0 10;hall", 16, 1);
        fault("mender 0;foo", 0, 4);
        fault("foo;mender", 0, 0);
        fault("hall 1 1;sort 0 0;thing 1 300 31 2", 24, 1);
        fault("hall 1 1;sort 0 0;thing 0 300 31 2", 26, 1);
        fault("hall 1 1;sort 0 0;thing 0 0 31 2", 28, 1);
        fault("hall 1 1;sort 0 0;thing 0 0 1 2;foo", 30, 1);
        fault("hall 1 1;skill 9 9 99", 15, 1);
    }

    /** "Of one place the least.": a WORD that can't stand there, where a CLAUSE would be too many, too. */
    private static void ofOnePlaceTheLeast() {
        fault("hall 1 1;hallo", 9, 0);
        fault("hall 1 1;sort 0 0;sort 0 0;sort 0 0;sort 0 0;sortt", 45, 0);
        fault("hall 1 1;mender;mender;mender;mender;mend", 37, 0);
        fault("hall 1 1;mender;mender;mender;mender;", 37, 0);
        fault("hall 1 1;mender;mender;mender;mender;7", 37, 0);
        fault("sor 0 0", 0, 0);
        fault("hall 1 1;sort x", 14, 0);
        fault("hall 1 1;sort ;", 14, 0);
    }
}
