/** Promises 5 (rule) and 6 (force): a RULE's text, its FAULTS, and what its WORDS and signs mean. */
public final class RuleTextTest {
    private static final Due DUE = new Due("RuleTextTest");

    public static void main(String[] args) {
        misplaced();
        numbers();
        depth();
        tooMany();
        sixRules();
        force();
        signs();
        tests();
        clauses();
        words();
        changingWords();
        DUE.finish();
    }

    private static void fault(String text, int place, int why) {
        MendHall x = new MendHall();
        DUE.is("rule() of '" + text + "'", Due.rule(x, text), Due.fault(place, why));
        DUE.is("count(5) behind '" + text + "'", x.count(5), 0);
        DUE.is("count(16) behind '" + text + "'", x.count(16), 0);
    }

    private static void fine(String text) {
        DUE.is("rule() of '" + text + "'", Due.rule(new MendHall(), text), 0);
    }

    private static void misplaced() {
        fine("take 1");
        fine(" take 1 ");
        fine("take1");
        fine("take worth+1 if waited>3;take 2");
        fine("take 1if 1=1and 2=2or not[3=3]");
        fine("take 1 if not not[not 1=1]");
        fine("take 1 ; take 2 ; take 3");
        fault("", 0, 0);
        fault("  ", 2, 0);
        fault("take", 4, 0);
        fault("take ", 5, 0);
        fault("tak 1", 0, 0);
        fault("takes 1", 0, 0);
        fault("hall 1 1", 0, 0);
        fault("Take 1", 0, 0);
        fault("take 1;", 7, 0);
        fault("take 1;;", 7, 0);
        fault("take 1 2", 7, 0);
        fault("take 1 222222", 7, 0);
        fault("take worth2", 10, 0);
        fault("take worthy", 5, 0);
        fault("take wor", 5, 0);
        fault("take if", 5, 0);
        fault("take not 1", 5, 0);
        fault("take -1", 5, 0);
        fault("take 1+", 7, 0);
        fault("take 1++1", 7, 0);
        fault("take 1 +", 8, 0);
        fault("take [1]", 5, 0);
        fault("take 1 iff 1=1", 7, 0);
        fault("take 1 and 1=1", 7, 0);
        fault("take 1<2", 6, 0);
        fault("take 1 if", 9, 0);
        fault("take 1 if 1", 11, 0);
        fault("take 1 if 1 ;", 12, 0);
        fault("take 1 if 1=", 12, 0);
        fault("take 1 if =1", 10, 0);
        fault("take 1 if 1==1", 12, 0);
        fault("take 1 if 1< =1", 13, 0);
        fault("take 1 if 1=<1", 12, 0);
        fault("take 1 if 1<>1", 12, 0);
        fault("take 1 if 1<==1", 13, 0);
        fault("take 1 if 1!1", 11, 0);
        fault("take 1 if 1=1=1", 13, 0);
        fault("take 1 if 1=1 and", 17, 0);
        fault("take 1 if 1=1 or;", 16, 0);
        fault("take 1 if 1=1 andor", 14, 0);
        fault("take 1 if 1=1 if 1=1", 14, 0);
        fault("take 1 if [1=1", 14, 0);
        fault("take 1 if [1=1;", 14, 0);
        fault("take 1 if [1]=1", 12, 0);
        fault("take 1 if []", 11, 0);
        fault("take 1 if 1=1]", 13, 0);
        fault("take 1 if (1=1)", 10, 0);
        fault("take 1 if not", 13, 0);
        fault("take 1 if not;", 13, 0);
        fault("take 1 if nots=1", 10, 0);
        fault("take 1 if 1=1 not 1=1", 14, 0);
    }

    private static void numbers() {
        fine("take 99999");
        fine("take 00000");
        fault("take 100000", 5, 1);
        fault("take 000001", 5, 1);
        fault("take 1+12345678901234567890", 7, 1);
        fault("take 1 if worth>100000;foo", 16, 1);
    }

    private static void depth() {
        fine("take 1 if [[[[[[[[[[1=1]]]]]]]]]]");
        fine("take 1 if not not not not not not not not not not 1=1");
        fine("take 1 if not[not[not[not[not[1=1]]]]]");
        fine("take 1 if [[[[[[[[[[1=1]]]]]]]]]] and [[[[[[[[[[1=1]]]]]]]]]]");
        fine("take 1 if not not not not not[[[[[1=1]]]]]");
        fault("take 1 if [[[[[[[[[[[1=1]]]]]]]]]]]", 20, 2);
        fault("take 1 if [[[[[[[[[[not 1=1]]]]]]]]]]", 20, 2);
        fault("take 1 if [[[[[[[[[[1=1 or [", 27, 2);
        fault("take 1 if not not not not not not not not not not not 1=1", 50, 2);
        fault("take 1 if not not not not not not not not not not [1=1]", 50, 2);
        fault("take 1 if [[[[[[[[[[nots", 20, 0);
        fault("take 1 if [[[[[[[[[[]", 20, 0);
    }

    private static void tooMany() {
        StringBuilder sixty = new StringBuilder("take 1");
        for (int i = 1; i < 60; i++) {
            sixty.append("+1");
        }
        fine(sixty.toString());
        MendHall two = new MendHall();
        DUE.is("60", Due.rule(two, sixty.toString()), 0);
        DUE.is("60 in another one", Due.rule(two, sixty.toString()), 1);
        fault(sixty + "+1", 6 + 59 * 2 + 1, 3);
        fault(sixty + "+ worth", 6 + 59 * 2 + 2, 3);
        // of one place the least
        fault(sixty + "+foo", 6 + 59 * 2 + 1, 0);
        fault(sixty + "+123456", 6 + 59 * 2 + 1, 1);
        fault(sixty + "+;", 6 + 59 * 2 + 1, 0);
        fault(sixty + ";take 1", sixty.length() + 6, 3);
        fault(sixty + " if 1=1", sixty.length() + 4, 3);

        // 59 and one FACT's first VALUE: the FACT is the 61st, at its SIGN
        String most = sixty.substring(0, sixty.length() - 2);
        fault(most + " if 1=1", most.length() + 5, 3);
        fault(most + " if worth >= 1", most.length() + 10, 3);
        // 58, a VALUE and a FACT: the VALUE behind the SIGN is the 61st
        String fewer = most.substring(0, most.length() - 2);
        fault(fewer + " if 1=1", fewer.length() + 6, 3);
        fine(fewer.substring(0, fewer.length() - 2) + " if 1=1");

        StringBuilder twelve = new StringBuilder("take 1");
        for (int i = 1; i < 12; i++) {
            twelve.append(";take 1");
        }
        fine(twelve.toString());
        fault(twelve + ";take 1", 84, 4);
        fault(twelve + ";  take", 86, 4);
        fault(twelve + ";taken", 84, 0);
        fault(twelve + ";", 84, 0);
    }

    private static void sixRules() {
        MendHall x = new MendHall();
        for (int i = 0; i < 6; i++) {
            DUE.is("rule()", Due.rule(x, "take " + i), i);
            DUE.is("a FAULT between", Due.rule(x, "take"), i < 5 ? Due.fault(4, 0) : -1);
            DUE.is("count(5)", x.count(5), i + 1);
        }
        DUE.is("nothing happens to the TAPE", x.count(16), 4);
        x.end(0);
        DUE.is("a seventh", Due.rule(x, "take 1"), -1);
        DUE.is("the TAPE stays", x.count(16), 6);
        DUE.is("count(5)", x.count(5), 6);
        DUE.is("and is still to be had, as a HALL", x.hall(), Due.fault(0, 0));
    }

    private static void force() {
        MendHall x = Due.open("hall 30 12;sort 0 0;mender;skill 0 0 5;thing 0 0 4 0;thing 0 0 5 0",
                "take thing", "take 1-thing");
        DUE.is("count(6)", x.count(6), -1);
        DUE.is("force(-1)", x.force(-1), -1);
        DUE.is("force(2)", x.force(2), -2);
        DUE.is("force(-2)", x.force(-2), -2);
        DUE.is("force(MAX)", x.force(Integer.MAX_VALUE), -2);
        DUE.is("force(0)", x.force(0), -1);
        DUE.is("force(2)", x.force(2), -2);
        DUE.is("count(6)", x.count(6), 0);
        DUE.is("by RULE 0", x.ahead(0, 1, 1), 1);
        DUE.is("force(1)", x.force(1), 0);
        DUE.is("by RULE 1", x.ahead(0, 1, 1), 0);
        DUE.is("force(-1)", x.force(-1), 1);
        DUE.is("count(6)", x.count(6), -1);
        DUE.is("it is no ACT", x.count(14), 0);
        x.force(0);
        x.minute();
        x.force(1);
        x.undo();
        DUE.is("and not UNDONE", x.count(6), 1);
    }

    /** Whether the one MENDER takes the one THING in minute 0 by this RULE. */
    private static void takes(String rule, boolean isSo) {
        MendHall x = Due.open("hall 30 12;sort 2 3;sort 0 0;mender;mender;skill 1 0 5;skill 1 1 9;"
                + "thing 0 0 7 1", rule);
        x.force(0);
        DUE.is("taken by '" + rule + "'", x.ahead(1, 1, 1), isSo ? 0 : -1);
    }

    private static void holds(String test) {
        takes("take 1 if " + test, true);
        takes("take 1 if not [" + test + "]", false);
    }

    private static void signs() {
        holds("2+3=5 and 2-3=0-1 and 2*3=6 and 7/2=3 and 7%4=3");
        holds("2+3*4=14 and 2*3+4=10 and 20-5-3=12 and 20/5*2=8 and 20-5+3=18");
        holds("2*7%4=2 and 100/7/2=7 and 17%10%4=3");
        holds("7/0=0 and 7%0=0 and 7/0+1=1");
        takes("take 0-7/2 + 4", true);
        takes("take 0-7/2 + 3", false);
        holds("1<2 and not 2<2 and not 3<2");
        holds("1<=2 and 2<=2 and not 3<=2");
        holds("not 1=2 and 2=2 and not 3=2");
        holds("not 1>=2 and 2>=2 and 3>=2");
        holds("not 1>2 and not 2>2 and 3>2");
        // round in 64 bits: 65536 to the 4th is 2 to the 64th
        holds("65536*65536*65536*65536=0");
        holds("65536*65536*65536*32768<0");
        holds("65536*65536*65536*32768-1>0");
        takes("take 65536*65536*65536*65536+1", true);
        takes("take 65536*65536*65536*32768", false);
        takes("take 65536*65536*65536*32767", true);
        // towards 0, and the rest has the sign of what is divided: a product that goes round
        holds("65536*65536*65536*32768/2<0");
        holds("65536*65536*65536*32768%3=0-2");
        holds("65536*65536*65536*65535/65536/65536/65536=0-1");
        holds("65536*65536*65536*65535/10/65536/65536/6553=0-1");
    }

    private static void tests() {
        holds("1=1 or 1=1 and 1=2");
        holds("1=2 and 1=1 or 1=1");
        takes("take 1 if [1=1 or 1=1] and 1=2", false);
        takes("take 1 if 1=2 and [1=1 or 1=1]", false);
        takes("take 1 if 1=2 or 1=2 or 1=1", true);
        takes("take 1 if 1=1 and 1=1 and 1=2", false);
        takes("take 1 if not 1=1 or 1=1", true);
        takes("take 1 if not [1=1 or 1=1]", false);
        takes("take 1 if not not 1=1", true);
        takes("take 1 if not 1=2 and 1=2", false);
        takes("take 1 if [[1=2 or [1=1 and not [1=2]]]]", true);
        takes("take 1 if 1=1 and 1=2 or 1=1 and 1=1", true);
        takes("take 1 if 1=1 and 1=2 or 1=2 and 1=1", false);
    }

    private static void clauses() {
        takes("take 0", false);
        takes("take 1", true);
        takes("take 0-1", false);
        takes("take 0;take 1", false);
        takes("take 0 if 1=2;take 1", true);
        takes("take 1 if 1=2;take 0;take 1", false);
        takes("take 1 if 1=2", false);
        takes("take 1 if 1=2;take 0-5 if 1=1;take 9", false);
        takes("take 0 if 1=2;take 0 if 2=3;take 5 if 1=1;take 0", true);

        String hall = "hall 30 12;sort 0 0;mender;skill 0 0 5;"
                + "thing 0 0 4 0;thing 0 0 9 0;thing 0 0 9 0;thing 0 0 2 0";
        chosen(hall, "take worth", 1);
        chosen(hall, "take 10-worth", 3);
        chosen(hall, "take worth if worth<9", 0);
        chosen(hall, "take worth if worth<9;take 3 if thing=2;take 9 if thing=1", 1);
        chosen(hall, "take worth if worth<9;take 4 if thing=2;take 3", 0);
        chosen(hall, "take 7", 0);
        chosen(hall, "take worth-9", -1);
        chosen(hall, "take thing", 3);
    }

    private static void chosen(String hall, String rule, int thing) {
        MendHall x = Due.open(hall, rule);
        x.force(0);
        DUE.is("chosen by '" + rule + "'", x.ahead(0, 1, 1), thing);
    }

    private static void words() {
        holds("mender=1");
        holds("thing=0");
        holds("sort=0");
        holds("worth=7");
        holds("waited=0");
        holds("minutes=7");
        holds("needs=1");
        holds("parts=3");
        holds("queue=1");
        holds("left=30");
        holds("free=2");
        holds("skills=2");
    }

    /** WORDS that change as it goes on, and from one MENDER to the next within a MINUTE. */
    private static void changingWords() {
        String hall = "hall 30 12;sort 1 2;sort 0 5;mender;mender;skill 0 0 5;skill 1 0 7;"
                + "skill 1 1 3;thing 0 2 4 1;thing 0 3 9 1;thing 1 3 9 0";
        // none is taken till THING 0 has waited 4 minutes: in minute 6
        MendHall x = Due.open(hall, "take 9 if waited=4", "take 9 if left=25", "take 9 if queue=3",
                "take 9 if queue<3", "take 9 if parts=1", "take 9 if free=1");
        x.force(0);
        DUE.is("waited=4", x.waits(0), 4);
        DUE.is("waited=4, of several the least", x.waits(1), 4);
        DUE.is("waited=4, its minute is gone by", x.waits(2), 12);
        x.force(1);
        DUE.is("left=25", x.waits(0), 3);
        x.force(2);
        Due.minutes(x, 4);
        DUE.is("queue=3: the first takes one, then there are 2", x.mender(0, 0), 0);
        DUE.is("queue=3", x.mender(1, 0), -1);
        DUE.is("queue then", x.count(8), 6);
        back(x, 4);
        x.force(3);
        DUE.is("queue<3", x.waits(0), 0);
        back(x, 0);
        // parts=1 holds for no THING of SORT 0 before one part is used up
        x.force(4);
        DUE.is("parts=1", x.waits(0), 12);
        // the second MENDER sees one MENDER free, once the first has begun
        Due.minutes(x, 3);
        DUE.is("waiting", x.count(8), 1);
        x.give(0, 0);
        x.force(4);
        DUE.is("parts=1 behind the first part", x.waits(1), 0);
        x.force(5);
        DUE.is("free=1 behind it", x.waits(1), 0);
        x.undo();
        DUE.is("free=2 for both", x.waits(1), 12);
        // who is at COFFEE is free
        x.coffee(0, 60);
        DUE.is("free=2 with one at COFFEE", x.waits(1), 12);
        DUE.is("skills of each", skillsOf(), 1);
    }

    private static void back(MendHall x, int acts) {
        for (int i = 0; i < acts; i++) {
            x.undo();
        }
    }

    /** Only a MENDER of two skills takes: MENDER 1; and of SORT 1, of which 5 parts are at hand. */
    private static int skillsOf() {
        MendHall x = Due.open("hall 30 12;sort 1 2;sort 0 5;mender;mender;skill 0 0 5;skill 1 0 7;"
                + "skill 1 1 1;thing 0 0 4 1;thing 1 0 4 1", "take skills-1 if parts=5 and sort=1");
        x.force(0);
        x.minute();
        return x.count(9) == 0 && x.count(10) == 2 && x.sort(1, 1) == 4 ? 1 : 0;
    }
}
