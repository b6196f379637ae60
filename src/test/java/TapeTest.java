/** Promises 1 (a new object), 2 (feed) and 3 (end). */
public final class TapeTest {
    private static final Due DUE = new Due("TapeTest");

    public static void main(String[] args) {
        newObject();
        feed();
        end();
        DUE.finish();
    }

    private static void newObject() {
        DUE.is("NONE", MendHall.NONE, -1);
        MendHall x = new MendHall();
        for (int what = 0; what <= 16; what++) {
            DUE.is("count(" + what + ")", x.count(what), what == 6 ? -1 : 0);
        }
        DUE.is("ruled(0)", x.ruled(0), -3);
        DUE.is("minute()", x.minute(), -1);
        DUE.is("force(0)", x.force(0), -2);
        for (int k = 0; k < 4; k++) {
            DUE.is("back", x.back(k), -1);
        }
    }

    private static void feed() {
        MendHall x = new MendHall();
        for (int n = 20; n <= 400; n += 20) {
            DUE.is("feed", x.feed(0, 0, 0, 0, 0), n);
            DUE.is("count(16)", x.count(16), n);
        }
        DUE.is("feed beyond 400", x.feed(0, 0, 0, 0, 0), -1);
        DUE.is("count(16)", x.count(16), 400);
        DUE.is("end(381)", x.end(381), 381);
        DUE.is("feed to 401", x.feed(0, 0, 0, 0, 0), -1);
        DUE.is("count(16)", x.count(16), 381);
        DUE.is("end(380)", x.end(380), 380);
        DUE.is("feed to 400", x.feed(0, 0, 0, 0, 0), 400);

        // hall 12 34;mender;me, each number's highest byte first
        MendHall y = new MendHall();
        y.feed(0x68616c6c, 0x20313220, 0x33343b6d, 0x656e6465, 0x723b6d65);
        DUE.is("feed", y.feed(0x6e646572, 0xffffffff, -1, 0x80000000, Integer.MIN_VALUE), 40);
        y.end(24);
        DUE.is("hall()", y.hall(), 0);
        DUE.is("END", y.count(0), 12);
        DUE.is("WAIT", y.count(1), 34);
        DUE.is("MENDERS", y.count(3), 2);

        // a byte above 127 is no letter, no digit and no blank
        y.feed(0x68616c6c, 0x20313220, 0x3334ff00, 0, 0);
        y.end(11);
        DUE.is("hall()", y.hall(), Due.fault(10, 0));
        y.feed(0x68616c6c, 0x20313220, 0x3334a000, 0, 0);
        y.end(11);
        DUE.is("hall()", y.hall(), Due.fault(10, 0));
    }

    private static void end() {
        MendHall x = new MendHall();
        DUE.is("end(0)", x.end(0), 0);
        DUE.is("end(1)", x.end(1), -1);
        DUE.is("end(-1)", x.end(-1), -1);
        DUE.is("end(MIN)", x.end(Integer.MIN_VALUE), -1);
        Due.tell(x, "hall 1XXXXX");
        DUE.is("end(12)", x.end(12), -1);
        DUE.is("count(16)", x.count(16), 11);
        DUE.is("end(11)", x.end(11), 11);
        DUE.is("end(6)", x.end(6), 6);
        DUE.is("count(16)", x.count(16), 6);
        DUE.is("end(7)", x.end(7), -1);
        DUE.is("end(-1)", x.end(-1), -1);
        DUE.is("count(16)", x.count(16), 6);
        // twenty bytes come behind the six
        DUE.is("feed", x.feed(0x32203939, 0, 0, 0, 0), 26);
        x.end(10);
        DUE.is("hall()", x.hall(), 0);
        DUE.is("END", x.count(0), 12);
        DUE.is("WAIT", x.count(1), 99);
        DUE.is("count(16)", x.count(16), 0);
        // what was cut off is no part of the text, however it goes on
        Due.tell(x, "hall 1 12");
        x.end(8);
        DUE.is("hall()", x.hall(), 0);
        DUE.is("WAIT", x.count(1), 1);
        Due.tell(x, "take 1 if 1<=2");
        x.end(12);
        DUE.is("rule()", x.rule(), Due.fault(12, 0));
        Due.tell(x, "take worth");
        x.end(9);
        DUE.is("rule()", x.rule(), Due.fault(5, 0));
        // 400 bytes, to the last of them
        Due.tell(x, " ".repeat(391) + "hall 9 12");
        DUE.is("count(16)", x.count(16), 400);
        DUE.is("hall()", x.hall(), 0);
        DUE.is("WAIT", x.count(1), 12);
        Due.tell(x, " ".repeat(388) + "take 1 if 1<");
        DUE.is("rule()", x.rule(), Due.fault(400, 0));
        Due.tell(x, " ".repeat(390) + "take worth");
        DUE.is("rule()", x.rule(), 0);
    }
}
