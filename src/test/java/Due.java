import java.nio.charset.StandardCharsets;

/** What the tests share: telling texts to a MendHall, and counting answers that are not due. */
final class Due {
    private final String name;
    private int checks;
    private int wrong;

    Due(String name) {
        this.name = name;
    }

    /** An answer and the one that is due. */
    void is(String call, long got, long want) {
        checks++;
        if (got != want) {
            wrong++;
            System.out.println(name + ": " + call + " answered " + got + ", due is " + want);
        }
    }

    void holds(String what, boolean isSo) {
        is(what, isSo ? 1 : 0, 1);
    }

    /** Ends the test: with exit code 1 if an answer was not due. */
    void finish() {
        System.out.println(name + ": " + checks + " checks, " + wrong + " wrong");
        if (wrong > 0 || checks == 0) {
            System.exit(1);
        }
    }

    /** Puts a text on the TAPE, nothing else, and cuts it to its length. */
    static void tell(MendHall hall, String text) {
        hall.end(0);
        byte[] bytes = text.getBytes(StandardCharsets.ISO_8859_1);
        int[] five = new int[5];
        for (int from = 0; from < bytes.length; from += 20) {
            for (int i = 0; i < 5; i++) {
                five[i] = 0;
                for (int k = 0; k < 4; k++) {
                    int at = from + 4 * i + k;
                    five[i] = five[i] << 8 | (at < bytes.length ? bytes[at] & 255 : 0);
                }
            }
            hall.feed(five[0], five[1], five[2], five[3], five[4]);
        }
        hall.end(bytes.length);
    }

    static int hall(MendHall hall, String text) {
        tell(hall, text);
        return hall.hall();
    }

    static int rule(MendHall hall, String text) {
        tell(hall, text);
        return hall.rule();
    }

    /** A new object with this HALL, in which all RULES are told. */
    static MendHall open(String text, String... rules) {
        MendHall hall = new MendHall();
        int things = hall(hall, text);
        if (things < 0) {
            throw new IllegalStateException("FAULT " + (-2 - things) + " in " + text);
        }
        for (String rule : rules) {
            int number = rule(hall, rule);
            if (number < 0) {
                throw new IllegalStateException("FAULT " + (-2 - number) + " in " + rule);
            }
        }
        return hall;
    }

    /** What a call answers to a FAULT at a place. */
    static int fault(int place, int why) {
        return -2 - (1 + 8 * place + why);
    }

    static void minutes(MendHall hall, int n) {
        for (int i = 0; i < n; i++) {
            hall.minute();
        }
    }
}
