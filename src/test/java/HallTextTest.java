/** Promise 4 (hall): what a HALL's text tells, and its FAULTS. */
public final class HallTextTest {
    private static final Due DUE = new Due("HallTextTest");

    public static void main(String[] args) {
        told();
        numbers();
        words();
        clausesTooMany();
        whatStays();
        DUE.finish();
    }

    private static void fault(String text, int place, int why) {
        MendHall x = new MendHall();
        DUE.is("hall() of '" + text + "'", Due.hall(x, text), Due.fault(place, why));
        DUE.is("count(16) behind '" + text + "'", x.count(16), 0);
        DUE.is("minute() behind '" + text + "'", x.minute(), -1);
    }

    private static void fine(String text, int things) {
        DUE.is("hall() of '" + text + "'", Due.hall(new MendHall(), text), things);
    }

    private static void told() {
        MendHall x = new MendHall();
        DUE.is("hall()", Due.hall(x, "hall 50 20;sort 2 1;mender;skill 0 0 10;sort 9 9;mender;"
                + "skill 1 1 60;skill 0 0 7;thing 1 299 30 1;thing 0 0 1 0"), 2);
        DUE.is("END", x.count(0), 50);
        DUE.is("WAIT", x.count(1), 20);
        DUE.is("SORTS", x.count(2), 2);
        DUE.is("MENDERS", x.count(3), 2);
        DUE.is("THINGS", x.count(4), 2);
        DUE.is("minute", x.count(7), 0);
        DUE.is("LOOK 0", x.sort(0, 0), 2);
        DUE.is("PARTS 0", x.sort(0, 1), 1);
        DUE.is("LOOK 1", x.sort(1, 0), 9);
        DUE.is("PARTS 1", x.sort(1, 1), 9);
        DUE.is("the last skill told", x.mender(0, 4), 7);
        DUE.is("no skill", x.mender(0, 5), -1);
        DUE.is("no skill", x.mender(1, 4), -1);
        DUE.is("skill", x.mender(1, 5), 60);
        int[][] things = {{1, 299, 30, 1, 0, -1}, {0, 0, 1, 0, 0, -1}};
        for (int t = 0; t < 2; t++) {
            for (int what = 0; what < 6; what++) {
                DUE.is("thing(" + t + ", " + what + ")", x.thing(t, what), things[t][what]);
            }
        }
        DUE.is("a skill of 1", Due.open("hall 1 1;sort 0 0;mender;skill 0 0 1").mender(0, 4), 1);
        fine("hall 1 1", 0);
        fine("  hall  1   1  ", 0);
        fine("hall1 1;sort0 0;mender;skill0 0 1;thing0 0 1 0", 1);
        fine("hall 00001 00300 ; sort 0 0 ; mender ; thing 0 00000 00030 1 ", 1);
        fine("hall 300 300;sort 9 9;sort 0 0;sort 1 1;sort 2 2;mender;mender;mender;mender;"
                + "thing 3 1 1 1;thing 0 1 1 1;thing 0 1 1 1;thing 0 1 1 1;thing 0 1 1 1;"
                + "thing 0 1 1 1;thing 0 1 1 1;skill 3 3 60", 7);
    }

    private static void numbers() {
        fault("hall 0 1", 5, 1);
        fault("hall 301 1", 5, 1);
        fault("hall 1 0", 7, 1);
        fault("hall 1 301", 7, 1);
        fault("hall 000001 1", 5, 1);
        fault("hall 99999999999999999999 1", 5, 1);
        fault("hall 1", 6, 0);
        fault("hall", 4, 0);
        fault("hall  ", 6, 0);
        fault("hall x 1", 5, 0);
        fault("hall 1 -1", 7, 0);
        fault("hall 1 1 1", 9, 0);
        fault("hall 1 1 999999", 9, 0);
        fault("hall 1 1;sort 10 0", 14, 1);
        fault("hall 1 1;sort 0 10", 16, 1);
        fault("hall 1 1;sort 0", 15, 0);
        fault("hall 1 1;mender 1", 16, 0);
        fault("hall 1 1;mender;sort 0 0;skill 1 0 1", 31, 1);
        fault("hall 1 1;mender;sort 0 0;skill 0 1 1", 33, 1);
        fault("hall 1 1;mender;sort 0 0;skill 0 0 0", 35, 1);
        fault("hall 1 1;mender;sort 0 0;skill 0 0 61", 35, 1);
        fault("hall 1 1;mender;skill 0 0 1;sort 0 0", 24, 1);
        fault("hall 1 1;sort 0 0;skill 0 0 1;mender", 24, 1);
        fault("hall 1 1;thing 0 0 1 0;sort 0 0", 15, 1);
        fault("hall 1 1;sort 0 0;thing 1 0 1 0", 24, 1);
        fault("hall 1 1;sort 0 0;thing 0 300 1 0", 26, 1);
        fault("hall 1 1;sort 0 0;thing 0 0 0 0", 28, 1);
        fault("hall 1 1;sort 0 0;thing 0 0 31 0", 28, 1);
        fault("hall 1 1;sort 0 0;thing 0 0 1 2", 30, 1);
        fault("hall 1 1;sort 0 0;thing 0 0 1", 29, 0);
        fault("hall 1 1;sort 0 0;thing 0 0 1;mender", 29, 0);
    }

    private static void words() {
        fault("", 0, 0);
        fault("   ", 3, 0);
        fault(";", 0, 0);
        fault("hal 1 1", 0, 0);
        fault("halls 1 1", 0, 0);
        fault("Hall 1 1", 0, 0);
        fault("hallx", 0, 0);
        fault("hallz 1 1", 0, 0);
        fault("zhall 1 1", 0, 0);
        fault("halla 1 1", 0, 0);
        fault("hall{1 1", 4, 0);
        fault("hall`1 1", 4, 0);
        fault("hall :1", 5, 0);
        fault("hall /1", 5, 0);
        fault("1", 0, 0);
        fault("take 1", 0, 0);
        fault("hall 1 1;", 9, 0);
        fault("hall 1 1; ", 10, 0);
        fault("hall 1 1;;mender", 9, 0);
        fault("hall 1 1 mender", 9, 0);
        fault("hall 1 1;menders", 9, 0);
        fault("hall 1 1;mend", 9, 0);
        fault("hall 1 1,mender", 8, 0);
        fault("hall 1\t1", 6, 0);
        fault("hall 1 1\n", 8, 0);
        fault("hall 1 1;sort 0 0;thing 0 0 1 0 x", 32, 0);
    }

    private static void clausesTooMany() {
        fault("mender", 0, 4);
        fault("  sort 0 0;hall 1 1", 2, 4);
        fault("skill 0 0 1", 0, 4);
        fault("thing 0 0 1 0", 0, 4);
        fault("foo;hall 1 1", 0, 0);
        fault("hall 1 1;hall 1 1", 9, 4);
        fault("hall 1 1;mender;hall", 16, 4);
        String sorts = "hall 1 1;sort 0 0;sort 0 0;sort 0 0;sort 0 0";
        fine(sorts, 0);
        fault(sorts + ";sort 0 0", 45, 4);
        fault(sorts + "; sort", 46, 4);
        fault(sorts + ";sorts", 45, 0);
        String menders = "hall 1 1;mender;mender;mender;mender";
        fine(menders, 0);
        fault(menders + ";mender", 37, 4);
        StringBuilder things = new StringBuilder("hall 1 1;sort 0 0");
        for (int i = 0; i < 7; i++) {
            things.append(";thing 0 0 1 0");
        }
        fine(things.toString(), 7);
        fault(things + ";thing 9", things.length() + 1, 4);

        // 40 CLAUSES do not fit into 400 bytes: 39 do, and the byte behind them must be a ;
        String most = "hall1 1;sort0 0;sort0 0;sort0 0;sort0 0;mender;mender;mender;mender";
        for (int i = 9; i < 39; i++) {
            most += ";skill0 0 1";
        }
        DUE.is("39 CLAUSES", most.length(), 397);
        fine(most, 0);
        fine(most + "   ", 0);
        fault(most + ";", 398, 0);
        fault(most + ";sk", 398, 0);
        fault(most + "0;;", 399, 0);
    }

    private static void whatStays() {
        String text = "hall 30 12;sort 0 3;mender;skill 0 0 5;thing 0 0 4 1;thing 0 0 5 1";
        MendHall x = Due.open(text, "take thing");
        x.force(0);
        x.seed(77);
        x.minute();
        x.book(3, 0, 1);
        DUE.is("mender(0, 0)", x.mender(0, 0), 1);
        DUE.is("a FAULT", Due.hall(x, "hall 1 1;mender;mender;sort 1 1;hall"), Due.fault(32, 4));
        DUE.is("END stays", x.count(0), 30);
        DUE.is("MENDERS stay", x.count(3), 1);
        DUE.is("SORTS stay", x.count(2), 1);
        DUE.is("LOOK stays", x.sort(0, 0), 0);
        DUE.is("the minute stays", x.count(7), 1);
        DUE.is("BOOKS stay", x.count(13), 1);
        DUE.is("ACTS stay", x.count(14), 1);
        DUE.is("in work stays", x.count(9), 2);

        DUE.is("another HALL", Due.hall(x, "hall 9 8;sort 1 2;mender"), 0);
        DUE.is("END", x.count(0), 9);
        DUE.is("no THINGS", x.count(4), 0);
        DUE.is("minute 0", x.count(7), 0);
        DUE.is("PARTS as told", x.sort(0, 1), 2);
        DUE.is("the skill is gone", x.mender(0, 4), -1);
        DUE.is("all are free", x.mender(0, 0), -1);
        DUE.is("none idle yet", x.mender(0, 3), 0);
        DUE.is("no BOOKS", x.count(13), 0);
        DUE.is("nothing to be UNDONE", x.count(14), 0);
        DUE.is("undo()", x.undo(), -2);
        DUE.is("the RULE IN FORCE stays", x.count(6), 0);
        DUE.is("x stays", x.count(15), 77);

        // and it goes on by that RULE: the greater number, not the one that came first
        Due.hall(x, text);
        x.minute();
        DUE.is("by the RULE", x.mender(0, 0), 1);
    }
}
