import java.util.function.Supplier;

/** The bounds of RULES (part I, and promises 5 and 6), sentence by sentence. */
public final class RuleBoundsTest {
    private static final Due DUE = new Due("RuleBoundsTest");
    private static final Bounds BOUNDS = new Bounds(DUE);
    /** Four SORTS and four MENDERS, the last of whom alone can mend, all SORTS. */
    private static final String MOST = "hall 300 300;sort 0 0;sort 0 0;sort 0 0;sort 9 9;"
            + "mender;mender;mender;mender;skill 3 0 1;skill 3 1 1;skill 3 2 1;skill 3 3 60;";

    public static void main(String[] args) {
        textOf400Bytes();
        sixRules();
        twelveClauses();
        numberOf1To5Digits();
        wordsAsFarAsSmallLettersGo();
        signs();
        timesAheadOfPlus();
        andAheadOfOr();
        notOfAFact();
        towards0AndTheRest();
        bothZeroBy0();
        roundIn64Bits();
        blanksStandBetween();
        tenDeep();
        sixtyTogether();
        force();
        firstClauseThatHolds();
        aboveZero();
        mender();
        thing();
        sort();
        worth();
        waited();
        minutes();
        needs();
        parts();
        queue();
        left();
        free();
        skills();
        theEndBehindTheLastByte();
        theFirstAlongTheText();
        DUE.finish();
    }

    private static void fine(String text) {
        MendHall x = Lived.midday();
        DUE.is("rule() of '" + text + "'", Due.rule(x, text), 3);
        DUE.is("RULES", x.count(5), 4);
        DUE.is("the TAPE is empty", x.count(16), 0);
    }

    private static void fault(String text, int place, int why) {
        BOUNDS.fault(text, false, Lived::midday, place, why);
    }

    /** Whether the one MENDER who can takes the one THING in minute 0. */
    private static boolean takes(String rule) {
        MendHall x = Due.open("hall 30 12;sort 2 3;mender;mender;skill 1 0 5;thing 0 0 7 1", rule);
        x.force(0);
        return x.ahead(0, 1, 0) == 2;
    }

    private static void holds(String test) {
        DUE.holds(test, takes("take 1 if " + test) && !takes("take 1 if not [" + test + "]"));
    }

    private static void holdsNot(String test) {
        DUE.holds("not " + test, !takes("take 1 if " + test) && takes("take 1 if not [" + test + "]"));
    }

    /** What a SUM is for the one who can take and the one THING they can: this, not 1 less or 1 more. */
    private static void value(Supplier<MendHall> made, String sum, int number) {
        for (int d = -1; d <= 1; d++) {
            MendHall x = made.get();
            Due.rule(x, "take 1 if " + sum + "+1=" + (number + d + 1));
            x.force(x.count(5) - 1);
            int before = x.count(9) + x.count(10);
            x.minute();
            boolean isTaken = x.count(9) + x.count(10) != before;
            DUE.holds(sum + "=" + (number + d) + " of " + number, isTaken == (d == 0));
        }
    }

    private static void value(String hall, String sum, int number) {
        value(() -> Due.open(hall), sum, number);
    }

    private static void textOf400Bytes() {
        String text = "take worth" + " ".repeat(388) + "+1";
        fine(text);
        fault(text.substring(0, 399), 399, 0);
        fault(text.substring(0, 399) + ";", 399, 0);
        fault("take 1" + " ".repeat(388) + "234567", 394, 0);
        fault("take 1" + " ".repeat(387) + "+234567", 394, 1);
    }

    /** "RULES 0 to 5"; promise 5: "NONE, and nothing happens: there are 6" */
    private static void sixRules() {
        MendHall x = Lived.midday();
        for (int rule = 3; rule < 6; rule++) {
            DUE.is("rule()", Due.rule(x, "take " + rule), rule);
            DUE.is("count(5)", x.count(5), rule + 1);
        }
        Due.tell(x, "take 6");
        DUE.is("there are 6", x.rule(), -1);
        DUE.is("count(5)", x.count(5), 6);
        DUE.is("the TAPE stays", x.count(16), 6);
        BOUNDS.refused("rule()", Lived::full, MendHall::rule, -1);
        BOUNDS.refused("rule() of what has a FAULT", () -> {
            MendHall y = Lived.full();
            Due.tell(y, "take");
            return y;
        }, MendHall::rule, -1);
        BOUNDS.refused("rule() of what has none", () -> {
            MendHall y = Lived.full();
            Due.tell(y, "take 1");
            return y;
        }, MendHall::rule, -1);
    }

    /** "12 CLAUSES at most" */
    private static void twelveClauses() {
        String twelve = "take 1 if 1=2;".repeat(11) + "take 7";
        fine(twelve);
        DUE.holds("the twelfth counts", takes(twelve));
        DUE.holds("the twelfth counts", !takes("take 1 if 1=2;".repeat(11) + "take 0"));
        fault(twelve + ";take 1", 161, 4);
        fault(twelve + ";  take", 163, 4);
        fault(twelve + ";", 161, 0);
        fault(twelve + ";taker", 161, 0);
        fault(twelve + ";1", 161, 0);
    }

    /** "NUMBER (1 to 5 digits, as far as digits go on)" */
    private static void numberOf1To5Digits() {
        fine("take 0");
        fine("take 9");
        fine("take 99999");
        fine("take 00000");
        holds("0=00000 and 00010=10 and 99999=90000+9999");
        fault("take ", 5, 0);
        fault("take +1", 5, 0);
        fault("take -1", 5, 0);
        fault("take 100000", 5, 1);
        fault("take 000000", 5, 1);
        fault("take 1234567890123456789012", 5, 1);
        fault("take 1 2", 7, 0);
        fault("take 12345 6", 11, 0);
        fault("take 1+  123456;foo", 9, 1);
    }

    /** "WORD .. (small letters, as far as these go on)" */
    private static void wordsAsFarAsSmallLettersGo() {
        String[] words = {"mender", "thing", "sort", "worth", "waited", "minutes", "needs", "parts",
            "queue", "left", "free", "skills"};
        for (String word : words) {
            fine("take " + word);
            fine("take1+" + word + " if " + word + "=1and 1=" + word);
            fault("take " + word + "s", 5, 0);
            fault("take s" + word, 5, 0);
            fault("take " + word.substring(0, word.length() - 1), 5, 0);
            fault("take " + word.substring(0, 1).toUpperCase() + word.substring(1), 5, 0);
            fault("take " + word + "1", 5 + word.length(), 0);
            fault("take " + word + "_", 5 + word.length(), 0);
            fault("take " + word + "`", 5 + word.length(), 0);
            fault("take " + word + "{", 5 + word.length(), 0);
            fault("take" + word, 0, 0);
        }
        fault("take take", 5, 0);
        fault("take if", 5, 0);
        fault("take 1if1=1ora=1", 11, 0);
        fine("take 1if1=1or 1=1and 1=1and not 1=2");
        fault("take 1 ifnot 1=1", 7, 0);
        fault("take 1 if notnot 1=1", 10, 0);
        fault("take 1 if 1=1 orand", 14, 0);
    }

    private static void signs() {
        String[] signs = {"<", "<=", "=", ">=", ">"};
        boolean[][] so = {{true, false, false}, {true, true, false}, {false, true, false},
            {false, true, true}, {false, false, true}};
        for (int i = 0; i < signs.length; i++) {
            for (int left = 6; left <= 8; left++) {
                String test = left + signs[i] + "worth";
                DUE.holds(test, takes("take 1 if " + test) == so[i][left - 6]);
            }
        }
        holds("0-1<0");
        holdsNot("0-1>=0");
        fault("take 1 if 1< =1", 13, 0);
        fault("take 1 if 1> =1", 13, 0);
        fault("take 1 if 1=<1", 12, 0);
        fault("take 1 if 1=>1", 12, 0);
        fault("take 1 if 1<<1", 12, 0);
        fault("take 1 if 1<==1", 13, 0);
        fault("take 1 if 1!=1", 11, 0);
        fault("take 1 if 1", 11, 0);
        fault("take 1 if 1<", 12, 0);
        fault("take 1 if 1<1<1", 13, 0);
    }

    /** "SUM: TERM { (+ or -) TERM }. TERM: VALUE { (* or / or %) VALUE }", from the left. */
    private static void timesAheadOfPlus() {
        holds("2+3*4=14 and 2*3+4=10 and 10-4-3=3 and 10-4+3=9");
        holds("100/10/5=2 and 100/10*5=50 and 2*9%5=3 and 9%5*2=8 and 17/5%2=1");
        holds("1+2*3-8/4+7%4=8");
    }

    /** "TEST: PART { or PART }. PART: FACT { and FACT }." */
    private static void andAheadOfOr() {
        holds("1=1 or 1=1 and 1=2");
        holds("1=2 and 1=2 or 1=1");
        holdsNot("[1=1 or 1=1] and 1=2");
        holdsNot("1=2 and [1=2 or 1=1]");
        holdsNot("1=2 or 1=2 or 1=2");
        holdsNot("1=1 and 1=1 and 1=2");
    }

    /** "FACT: not FACT": of what stands next to it alone. */
    private static void notOfAFact() {
        holdsNot("not 1=1 and 1=2");
        holds("not 1=1 or 1=1");
        holdsNot("not 1=2 and 1=2");
        holds("not 1=2");
        holds("not not 1=1");
        holdsNot("not not not 1=1");
        holdsNot("not [1=2 or 1=1]");
    }

    /** "/ is towards 0, % its rest" */
    private static void towards0AndTheRest() {
        String minus7 = "65536*65536*65536*65535/65536/65536/65536*7";
        holds(minus7 + "=0-7");
        holds(minus7 + "/2=0-3");
        holds(minus7 + "%2=0-1");
        holds(minus7 + "%7=0");
        holds("7/2=3 and 7%2=1 and 1/2=0 and 1%2=1 and 6/2=3 and 6%2=0 and 0/5=0 and 0%5=0");
        String by = "65536*65536*65536*65535/65536/65536/65536";
        holds("6/1=6 and 7%1=0 and " + by + "/1=0-1 and " + by + "%1=0");
    }

    private static void bothZeroBy0() {
        holds("7/0=0 and 7%0=0 and 0/0=0 and 0%0=0");
        holds("7/waited=0 and 7%waited=0 and 1+7/0*3=1");
        DUE.holds("take 1/0", !takes("take 1/0"));
        DUE.holds("take 1%0+1", takes("take 1%0+1"));
    }

    /** "all goes round in 64 bits": the most is 2 to the 63rd less 1. */
    private static void roundIn64Bits() {
        String half = "65536*65536*65536*32768";
        holds(half + "<0");
        holds(half + "-1>0");
        holds(half + "-1-1>0");
        holds(half + "+1<0");
        holds(half + "-1+1<0");
        holds("0-" + half + "<0");
        holds("0-" + half + "=" + half);
        holds(half + "*2=0");
        holds("65536*65536*65536*65536=0");
        // the least by -1 can't be told, since no VALUE is below 0: by 1 it stays
        MendHall x = Due.open("hall 30 12;sort 0 0;mender;skill 0 0 9;thing 0 0 1 0",
                "take 1 if 0-" + half + "/1=" + half + " and " + half + "%1=0");
        x.force(0);
        DUE.is("by 1", x.ahead(0, 1, 0), 2);
        DUE.holds("greatest", takes("take " + half + "-1"));
        DUE.holds("least", !takes("take " + half));
    }

    /** "Blanks (32) stand between as one likes": around all, and needed where letters or digits meet. */
    private static void blanksStandBetween() {
        fine("take1");
        fine("   take   1   if   [   1   <=   1   ]   ;   take   2   ");
        fine("take worth*2+3 if[not[1=1]]and 2=2;take 1");
        for (int blank : new int[] {0, 9, 10, 13, 31, 33, 95, 127, 128, 160, 255}) {
            fault("take 1" + (char) blank, 6, 0);
            fault("take" + (char) blank + "1", 4, 0);
            fault((char) blank + "take 1", 0, 0);
        }
        fault("ta ke 1", 0, 0);
        fault("take wor th", 5, 0);
        fault("take 1 if 1=1 a nd 1=1", 14, 0);
    }

    /** "[ and not lie within one another 10 deep at most"; "2 too deep (at the sign .., or the word not)" */
    private static void tenDeep() {
        String open = "take 1 if ";
        fine(open + "[".repeat(10) + "1=1" + "]".repeat(10));
        fine(open + "not ".repeat(10) + "1=1");
        fine(open + "not[".repeat(5) + "1=1" + "]".repeat(5));
        fine(open + "[not ".repeat(5) + "1=1" + "]".repeat(5));
        DUE.holds("ten are as told", takes(open + "[".repeat(10) + "1=1" + "]".repeat(10)));
        DUE.holds("ten are as told", takes(open + "not ".repeat(10) + "1=1"));
        DUE.holds("nine are as told", !takes(open + "not ".repeat(9) + "1=1"));
        fault(open + "[".repeat(11) + "1=1" + "]".repeat(11), 20, 2);
        fault(open + "not ".repeat(11) + "1=1", 50, 2);
        fault(open + "not[".repeat(5) + "[1=1]" + "]".repeat(5), 30, 2);
        fault(open + "not[".repeat(5) + " not 1=1" + "]".repeat(5), 31, 2);
        fault(open + "[not ".repeat(5) + "[1=1]" + "]".repeat(5), 35, 2);
        // side by side they are no deeper, in one PART, in another, and in the next CLAUSE
        String ten = "[".repeat(10) + "1=1" + "]".repeat(10);
        fine(open + ten + "and" + ten + "or" + ten + ";take 2 if" + ten);
        fine(open + "not 1=1 and not 1=1 or not 1=1 and not 1=1 or not 1=1 and not 1=1"
                + " or not 1=1 and not 1=1 or not 1=1 and not 1=1 or not 1=1");
        fault(open + "[".repeat(10) + "1=1 and [", 28, 2);
        fault(open + "[".repeat(10) + "1=1 or not", 27, 2);
        // of one place the least: at the eleventh another byte or WORD can't stand at all
        fault(open + "[".repeat(10) + "]", 20, 0);
        fault(open + "[".repeat(10) + "nott", 20, 0);
        fault(open + "[".repeat(10), 20, 0);
    }

    /** "at most 60 VALUES (of SUMS) and FACTS made of a SIGN, together"; "3 .. (at its first byte; ..)" */
    private static void sixtyTogether() {
        String sixty = "take 1" + "+1".repeat(59);
        fine(sixty);
        fault(sixty + "+1", 125, 3);
        fault(sixty + "+  worth", 127, 3);
        fault(sixty + " if 1=1", 128, 3);
        fault(sixty + ";take 1", 130, 3);
        fault(sixty + ";take 1;foo", 130, 3);
        // of one place the least
        fault(sixty + "+", 125, 0);
        fault(sixty + "+foo", 125, 0);
        fault(sixty + "+123456", 125, 1);
        // a FACT counts at its SIGN, behind the VALUES of its first SUM: the 59th and 60th are 1=1's
        String most = "take 1" + "+1".repeat(56);
        fine(most + " if 1=1");
        fault(most + "+1 if 1=1", 126, 3);
        fault(most + "+1+1 if 1=1", 127, 3);
        fault(most + "+1+1 if 1 <=1", 128, 3);
        fault(most + "+1+1 if worth+1=1", 132, 3);
        // brackets, not, and, or do not count
        fine(most + " if not not [[1=1]]");
        String facts = "1=1" + " and 1=1".repeat(18);
        fine("take 1+1+1 if " + facts);
        fault("take 1+1+1+1 if " + facts, 162, 3);
        fault("take 1+1+1 if " + facts + " and 1=1", 166, 3);
        fine("take 1+1 if 1=1;".repeat(12).substring(0, 191));
        fault("take 1+1+1 if 1=1;".repeat(11), 185, 3);
        // of each RULE by itself
        MendHall x = Lived.midday();
        DUE.is("60", Due.rule(x, sixty), 3);
        DUE.is("60 more", Due.rule(x, sixty), 4);
    }

    /** Promise 6: "(NONE: none) .. -2, and nothing happens, if there is none such" */
    private static void force() {
        for (int bad : new int[] {-2, -3, 3, 4, 5, 6, Integer.MAX_VALUE, Integer.MIN_VALUE}) {
            BOUNDS.refused("force(" + bad + ")", Lived::midday, x -> x.force(bad), -2);
        }
        for (int bad : new int[] {-2, 6, Integer.MAX_VALUE, Integer.MIN_VALUE}) {
            BOUNDS.refused("force(" + bad + ") of six", Lived::full, x -> x.force(bad), -2);
        }
        BOUNDS.refused("force(0) without RULES", MendHall::new, x -> x.force(0), -2);
        MendHall x = Lived.full();
        DUE.is("which was", x.force(-1), 2);
        DUE.is("none was", x.force(5), -1);
        DUE.is("the last was", x.force(0), 5);
        DUE.is("the first was", x.force(0), 0);
        DUE.is("count(6)", x.count(6), 0);
        DUE.is("none without RULES", new MendHall().force(-1), -1);
    }

    /** "first CLAUSE without a TEST, or whose TEST holds (0 without)" */
    private static void firstClauseThatHolds() {
        DUE.holds("without a TEST", takes("take 1;take 0"));
        DUE.holds("without a TEST", !takes("take 0;take 1"));
        DUE.holds("whose TEST holds", takes("take 0 if 1=2;take 1 if 1=1;take 0"));
        DUE.holds("whose TEST holds", !takes("take 1 if 1=2;take 0 if 1=1;take 1"));
        DUE.holds("without one that is so", !takes("take 1 if 1=2;take 1 if 1=3"));
        DUE.holds("its own SUM", takes("take 0 if worth<7;take worth-6 if worth=7;take 0"));
    }

    /** "is greatest, if it is above 0, of several the least" */
    private static void aboveZero() {
        DUE.holds("0", !takes("take 0"));
        DUE.holds("1", takes("take 1"));
        DUE.holds("-1", !takes("take 0-1"));
        String hall = "hall 9 9;sort 0 0;mender;skill 0 0 5;thing 0 0 1 0;thing 0 0 3 0;thing 0 0 3 0";
        MendHall x = Due.open(hall, "take worth", "take 4-worth", "take 5", "take worth-3", "take worth-2",
                "take 0-thing+thing*thing");
        int[] taken = {1, 0, 0, -1, 1, 2};
        for (int rule = 0; rule < 6; rule++) {
            x.force(rule);
            DUE.is("RULE " + rule, x.ahead(0, 1, 1), taken[rule]);
        }
    }

    /** Each MENDER alone at work: 0 to 3. */
    private static void mender() {
        for (int mender = 0; mender < 4; mender++) {
            value("hall 9 9;sort 0 0;mender;mender;mender;mender;skill " + mender
                    + " 0 5;thing 0 0 1 0", "mender", mender);
        }
    }

    /** One THING comes now: 0 to 6. */
    private static void thing() {
        for (int thing = 0; thing < 7; thing++) {
            StringBuilder hall = new StringBuilder("hall 9 9;sort 0 0;mender;skill 0 0 5");
            for (int other = 0; other < 7; other++) {
                hall.append(other == thing ? ";thing 0 0 1 0" : ";thing 0 1 1 0");
            }
            value(hall.toString(), "thing", thing);
        }
    }

    private static void sort() {
        for (int sort = 0; sort < 4; sort++) {
            value(MOST + "thing " + sort + " 0 1 0", "sort", sort);
        }
    }

    private static void worth() {
        value(MOST + "thing 0 0 1 0", "worth", 1);
        value(MOST + "thing 0 0 30 0", "worth", 30);
    }

    /** "waited (minutes since it came)": from 0 up to WAIT less 1, as long when it was put down. */
    private static void waited() {
        for (int waited = 0; waited < 4; waited++) {
            int now = 2 + waited;
            value(() -> {
                MendHall x = Due.open("hall 30 4;sort 0 0;mender;skill 0 0 9;thing 0 2 1 0", "take 0");
                x.force(0);
                Due.minutes(x, now);
                x.give(0, 0);
                x.putDown(0);
                return x;
            }, "waited", waited);
        }
        value("hall 300 300;sort 0 0;mender;skill 0 0 9;thing 0 0 1 0", "waited", 0);
        value(() -> {
            MendHall x = Due.open("hall 300 300;sort 0 0;mender;skill 0 0 9;thing 0 0 1 0", "take 0");
            x.force(0);
            Due.minutes(x, 299);
            return x;
        }, "waited", 299);
    }

    /** "minutes (MINUTES and LOOK together)": 1 and 0, 60 and 9. */
    private static void minutes() {
        value(MOST + "thing 0 0 1 0", "minutes", 1);
        value(MOST + "thing 3 0 1 0", "minutes", 69);
    }

    private static void needs() {
        value(MOST + "thing 3 0 1 0", "needs", 0);
        value(MOST + "thing 3 0 1 1", "needs", 1);
    }

    /** "parts (of its SORT at hand)": 0 to 99. */
    private static void parts() {
        value(MOST + "thing 2 0 1 0", "parts", 0);
        value(MOST + "thing 3 0 1 1", "parts", 9);
        value(() -> {
            MendHall x = Due.open(MOST + "thing 3 0 1 1");
            for (int n = 10; n <= 99; n++) {
                x.bring(3);
            }
            return x;
        }, "parts", 99);
    }

    /** "queue (THINGS that wait)": with the one that is looked at, 1 to 7. */
    private static void queue() {
        value(MOST + "thing 2 0 1 0;thing 2 1 1 0", "queue", 1);
        value(MOST + "thing 2 0 1 0" + ";thing 2 0 1 0".repeat(6), "queue", 7);
    }

    /** "left (END less the minute)": END in minute 0, 1 in the last one in which a THING is taken. */
    private static void left() {
        value(MOST + "thing 2 0 1 0", "left", 300);
        value(() -> {
            MendHall x = Due.open("hall 8 9;sort 0 0;mender;skill 0 0 9;thing 0 7 1 0");
            Due.minutes(x, 7);
            return x;
        }, "left", 1);
    }

    /** "free (MENDERS who are)": with the one who takes, 1 to 4, at COFFEE or not. */
    private static void free() {
        String hall = "hall 30 30;sort 0 0;mender;mender;mender;mender;skill 0 0 20;skill 1 0 20;"
                + "skill 2 0 20;skill 3 0 20;thing 0 0 1 0;thing 0 0 1 0;thing 0 0 1 0;thing 0 0 1 0";
        for (int given = 0; given < 4; given++) {
            int last = given;
            value(() -> {
                MendHall x = Due.open(hall, "take 0");
                x.force(0);
                x.minute();
                for (int mender = 1; mender <= last; mender++) {
                    x.give(mender, mender);
                }
                return x;
            }, "free", 4 - given);
        }
        value(() -> {
            MendHall x = Due.open(hall);
            x.coffee(1, 1);
            x.coffee(2, 60);
            x.coffee(3, 60);
            return x;
        }, "free", 4);
    }

    /** "skills (SORTS the MENDER has a skill for)": 1 to 4. */
    private static void skills() {
        value(MOST + "thing 2 0 1 0", "skills", 4);
        value("hall 9 9;sort 0 0;sort 0 0;mender;mender;skill 1 1 5;skill 1 1 6;skill 0 0 1;"
                + "thing 1 0 1 0", "skills", 1);
    }

    /** "0 .. the end (behind the last byte)": wherever more must come. */
    private static void theEndBehindTheLastByte() {
        String[] texts = {"", "take", "take 1+", "take 1-", "take 1*", "take 1/", "take 1%", "take 1;",
            "take 1 if", "take 1 if 1", "take 1 if 1<", "take 1 if 1<=", "take 1 if 1=", "take 1 if 1>=",
            "take 1 if 1>", "take 1 if not", "take 1 if [", "take 1 if [1=1", "take 1 if 1=1 and",
            "take 1 if 1=1 or", "take 1 if [1=1 and", "take 1 if [[1=1]", "take 1 if 1=1;"};
        for (String text : texts) {
            fault(text, text.length(), 0);
            fault(text + "  ", text.length() + 2, 0);
        }
    }

    /** "FAULTS, the first along the text": whatever stands behind it. */
    private static void theFirstAlongTheText() {
        fault("take 123456;foo", 5, 1);
        fault("take foo;take 123456", 5, 0);
        fault("take 1 if " + "[".repeat(11) + "foo", 20, 2);
        fault("take 1 if foo=1 and " + "[".repeat(11), 10, 0);
        fault("take 1" + "+1".repeat(60) + "+123456+foo", 125, 3);
        fault("take 123456" + "+1".repeat(60), 5, 1);
        fault("take 1 if 1=1=1 or " + "[".repeat(11), 13, 0);
        fault("take 1;".repeat(12) + "take foo", 84, 4);
        fault("take 1;".repeat(11) + "take foo;take 1", 82, 0);
    }
}
