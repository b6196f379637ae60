import java.util.Random;

/**
 * Runs of calls with drawn halls, rules, arguments and broken texts on MendHall and on the Model: each
 * answer must be the same. The seeds are fixed, so that every run is the same.
 */
public final class ModelTest {
    private static final String[] WORDS = {"mender", "thing", "sort", "worth", "waited", "minutes",
        "needs", "parts", "queue", "left", "free", "skills"};
    private static final String[] SIGNS = {"<", "<=", "=", ">=", ">"};
    private static final String BYTES = "abhlmnorstuw0159 ;+-*/%[]<=>";

    private final Random random;
    private final MendHall hall = new MendHall();
    private final Model model = new Model();
    private final StringBuilder log = new StringBuilder();

    private ModelTest(long seed) {
        random = new Random(seed);
    }

    public static void main(String[] args) {
        Due due = new Due("ModelTest");
        int runs = args.length > 0 ? Integer.parseInt(args[0]) : 1500;
        long from = args.length > 1 ? Long.parseLong(args[1]) : 0;
        for (long seed = from; seed < from + runs; seed++) {
            String wrong = new ModelTest(seed).run();
            due.holds("run of seed " + seed + (wrong == null ? "" : wrong), wrong == null);
        }
        due.finish();
    }

    private String run() {
        int calls = 0;
        int kind = random.nextInt(4);
        String crowd = random.nextInt(3) == 0 ? crowd() : null;
        if (crowd != null) {
            return "\n" + log + crowd;
        }
        while (calls < 150) {
            String wrong = null;
            int n = random.nextInt(100);
            if (calls == 0 && log.length() == 0 || n < 2) {
                wrong = tell(drawHall(), true);
            } else if (n < 6) {
                wrong = tell(drawRule(), false);
            } else if (n < 8) {
                wrong = tell(broken(random.nextBoolean() ? drawHall() : drawRule()),
                        random.nextBoolean());
            } else if (n < 35) {
                wrong = both("minute", 0, 0, 0);
            } else if (n < 38) {
                wrong = both("force", small(-2, 4), 0, 0);
            } else if (n < 55 + 5 * kind) {
                wrong = act();
            } else {
                wrong = ask();
            }
            if (wrong != null) {
                return "\n" + log + wrong;
            }
            calls++;
        }
        return null;
    }

    /** Many THINGS wait for MENDERS who are free, and are given and put down by hand. */
    private String crowd() {
        StringBuilder text = new StringBuilder("hall 200 ").append(small(20, 200));
        int sorts = small(1, 3);
        for (int i = 0; i < sorts; i++) {
            text.append(";sort ").append(small(0, 3)).append(' ').append(small(0, 3));
        }
        text.append(";mender;mender");
        text.append(random.nextBoolean() ? ";mender" : "");
        for (int m = 0; m < 2; m++) {
            for (int s = 0; s < sorts; s++) {
                text.append(random.nextInt(6) > 0 ? ";skill " + m + " " + s + " " + small(1, 12)
                        : "");
            }
        }
        int things = small(3, 7);
        for (int i = 0; i < things; i++) {
            text.append(";thing ").append(small(0, sorts - 1)).append(' ').append(small(0, 2))
                    .append(' ').append(small(1, 6)).append(' ').append(small(0, 1));
        }
        String wrong = tell(text.toString(), true);
        wrong = wrong == null ? tell("take 0", false) : wrong;
        wrong = wrong == null ? both("force", 0, 0, 0) : wrong;
        for (int i = 0; i < 3 && wrong == null; i++) {
            wrong = both("minute", 0, 0, 0);
        }
        for (int i = 0; i < 60 && wrong == null; i++) {
            wrong = crowdCall();
        }
        return wrong;
    }

    private String crowdCall() {
        switch (random.nextInt(12)) {
            case 0: return both("minute", 0, 0, 0);
            case 1: return both("putDown", small(0, 2), 0, 0);
            case 2: return both("undo", 0, 0, 0);
            case 3: return random.nextInt(3) == 0 ? both("coffee", small(0, 2), small(1, 9), 0)
                    : null;
            case 4: return both("swap", small(0, 2), 0, 0);
            case 5: return both("take", small(0, 2), small(0, 1), 0);
            case 6: return both("force", small(-1, 0), 0, 0);
            case 7:
            case 8: return both("match", small(0, 5), 0, 0);
            default: return both("give", small(0, 2), small(0, 6), 0);
        }
    }

    /** Mostly a number that there can be, now and then one beyond. */
    private int number(int most) {
        return random.nextInt(5) == 0 ? small(-1, most + 1) : small(0, most);
    }

    private int small(int least, int most) {
        return least + random.nextInt(most - least + 1);
    }

    private String act() {
        switch (random.nextInt(9)) {
            case 0:
            case 1: return both("give", number(3), number(6), 0);
            case 2: return both("putDown", number(3), 0, 0);
            case 3: return both("bring", number(3), 0, 0);
            case 4: return both("coffee", number(3), random.nextInt(5) == 0 ? small(-1, 61)
                    : small(1, 9), 0);
            case 5: return both("undo", 0, 0, 0);
            case 6: return both("image", number(3), 0, 0);
            case 7: return random.nextInt(3) == 0 ? both("back", number(3), 0, 0)
                    : both("seed", random.nextInt(), 0, 0);
            default: return both("book", random.nextInt(9) == 0 ? small(-2, 400) : small(0, 40),
                    number(6), number(4));
        }
    }

    private String ask() {
        switch (random.nextInt(20)) {
            case 0: return both("thing", number(6), number(5), 0);
            case 1: return both("mender", number(3), number(7), 0);
            case 2: return both("sort", number(3), number(1), 0);
            case 3: return both("ahead", number(6), number(30), number(2));
            case 4: return both("ahead", number(6), number(400), number(2));
            case 5: return both("done", number(6), 0, 0);
            case 6: return both("waits", number(6), 0, 0);
            case 7: return both("take", number(3), number(1), 0);
            case 8: return both("match", number(5), 0, 0);
            case 9: return both("swap", number(2), 0, 0);
            case 10: return both("part", number(1), 0, 0);
            case 11: return both("askIn", number(1), 0, 0);
            case 12: return random.nextInt(4) == 0 ? both("late", number(3), 0, 0) : null;
            case 13: return both("idle", number(3), 0, 0);
            case 14: return both("ruled", number(1), 0, 0);
            case 15: return both("look", random.nextBoolean() ? number(40) : number(399), number(1),
                    0);
            case 16: return both("saturdays", small(0, 11), number(60), number(1));
            default: return both("count", number(16), 0, 0);
        }
    }

    private String both(String call, int a, int b, int c) {
        int got = ofHall(call, a, b, c);
        int want = ofModel(call, a, b, c);
        log.append(call).append('(').append(a).append(", ").append(b).append(", ").append(c)
                .append(") ").append(got).append('\n');
        return got == want ? null : " due is " + want;
    }

    private int ofHall(String call, int a, int b, int c) {
        switch (call) {
            case "force": return hall.force(a);
            case "thing": return hall.thing(a, b);
            case "mender": return hall.mender(a, b);
            case "sort": return hall.sort(a, b);
            case "minute": return hall.minute();
            case "give": return hall.give(a, b);
            case "putDown": return hall.putDown(a);
            case "bring": return hall.bring(a);
            case "coffee": return hall.coffee(a, b);
            case "undo": return hall.undo();
            case "ahead": return hall.ahead(a, b, c);
            case "done": return hall.done(a);
            case "waits": return hall.waits(a);
            case "take": return hall.take(a, b);
            case "match": return hall.match(a);
            case "swap": return hall.swap(a);
            case "part": return hall.part(a);
            case "askIn": return hall.askIn(a);
            case "late": return hall.late(a);
            case "idle": return hall.idle(a);
            case "book": return hall.book(a, b, c);
            case "ruled": return hall.ruled(a);
            case "look": return hall.look(a, b);
            case "seed": return hall.seed(a);
            case "saturdays": return hall.saturdays(a, b, c);
            case "count": return hall.count(a);
            case "image": return hall.image(a);
            case "back": return hall.back(a);
            default: throw new IllegalStateException(call);
        }
    }

    private int ofModel(String call, int a, int b, int c) {
        switch (call) {
            case "force": return model.force(a);
            case "thing": return model.thing(a, b);
            case "mender": return model.mender(a, b);
            case "sort": return model.sort(a, b);
            case "minute": return model.minute();
            case "give": return model.give(a, b);
            case "putDown": return model.putDown(a);
            case "bring": return model.bring(a);
            case "coffee": return model.coffee(a, b);
            case "undo": return model.undo();
            case "ahead": return model.ahead(a, b, c);
            case "done": return model.done(a);
            case "waits": return model.waits(a);
            case "take": return model.take(a, b);
            case "match": return model.match(a);
            case "swap": return model.swap(a);
            case "part": return model.part(a);
            case "askIn": return model.askIn(a);
            case "late": return model.late(a);
            case "idle": return model.idle(a);
            case "book": return model.book(a, b, c);
            case "ruled": return model.ruled(a);
            case "look": return model.look(a, b);
            case "seed": return model.seed(a);
            case "saturdays": return model.saturdays(a, b, c);
            case "count": return model.count(a);
            case "image": return model.image(a);
            case "back": return model.back(a);
            default: throw new IllegalStateException(call);
        }
    }

    /** Feeds the text to both, now and then with something left over on the TAPE before. */
    private String tell(String text, boolean asHall) {
        log.append(asHall ? "hall " : "rule ").append(text).append('\n');
        hall.end(0);
        model.end(0);
        for (int from = 0; from < text.length(); from += 20) {
            int[] five = new int[5];
            for (int i = 0; i < 20; i++) {
                int at = from + i;
                five[i / 4] = five[i / 4] << 8 | (at < text.length() ? text.charAt(at) : 0);
            }
            int got = hall.feed(five[0], five[1], five[2], five[3], five[4]);
            int want = model.feed(five[0], five[1], five[2], five[3], five[4]);
            if (got != want) {
                return "feed " + got + ", due is " + want;
            }
        }
        int length = Math.min(text.length(), 400);
        int got = hall.end(length);
        int want = model.end(length);
        if (got == want) {
            got = asHall ? hall.hall() : hall.rule();
            want = asHall ? model.hall() : model.rule();
        }
        log.append(" answered ").append(got).append('\n');
        return got == want && hall.count(16) == model.count(16) ? null : " due is " + want;
    }

    private String drawHall() {
        StringBuilder text = new StringBuilder();
        boolean isShort = random.nextInt(3) > 0;
        text.append("hall ").append(isShort ? small(1, 60) : small(1, 300)).append(' ')
                .append(isShort ? small(1, 30) : small(1, 300));
        int sorts = small(random.nextInt(8) == 0 ? 0 : 1, 4);
        for (int i = 0; i < sorts; i++) {
            text.append(';').append("sort ").append(small(0, random.nextBoolean() ? 2 : 9))
                    .append(' ').append(random.nextInt(3) == 0 ? small(0, 9) : small(0, 2));
        }
        int menders = small(random.nextInt(8) == 0 ? 0 : 1, 4);
        for (int i = 0; i < menders; i++) {
            text.append(";mender");
        }
        for (int m = 0; m < menders; m++) {
            for (int s = 0; s < sorts; s++) {
                if (random.nextInt(3) > 0) {
                    text.append(";skill ").append(m).append(' ').append(s).append(' ')
                            .append(random.nextInt(4) == 0 ? small(1, 60) : small(1, 9));
                }
            }
        }
        int things = sorts == 0 ? 0 : random.nextInt(3) == 0 ? small(0, 7) : small(4, 7);
        for (int i = 0; i < things && text.length() < 385; i++) {
            text.append(";thing ").append(small(0, sorts - 1)).append(' ')
                    .append(isShort ? small(0, 20) : small(0, 299)).append(' ')
                    .append(small(1, 30)).append(' ').append(small(0, 1));
        }
        return text.toString();
    }

    private String drawRule() {
        StringBuilder text = new StringBuilder();
        if (random.nextInt(6) == 0) {
            drawAtTheBounds(text);
            return text.toString();
        }
        int clauses = random.nextInt(20) == 0 ? small(8, 13) : small(1, 3);
        for (int i = 0; i < clauses; i++) {
            text.append(i == 0 ? "" : ";").append("take ");
            drawSum(text, 4);
            if (random.nextBoolean()) {
                text.append(" if ");
                drawTest(text, random.nextInt(10) == 0 ? 12 : 3);
            }
        }
        return text.toString();
    }

    /** Around 60 VALUES and FACTS, or 10 deep, or 12 CLAUSES. */
    private void drawAtTheBounds(StringBuilder text) {
        int kind = random.nextInt(3);
        int clauses = kind == 0 ? small(11, 14) : small(1, 2);
        for (int i = 0; i < clauses; i++) {
            text.append(i == 0 ? "" : ";").append("take ");
            drawSum(text, kind == 1 ? 30 : 2);
            if (kind > 0) {
                text.append(" if ");
                drawDeep(text, kind == 2 ? small(8, 12) : 1);
            }
        }
    }

    private void drawDeep(StringBuilder text, int depth) {
        if (depth == 0) {
            drawTest(text, 0);
        } else if (random.nextInt(3) == 0) {
            text.append("not ");
            drawDeep(text, depth - 1);
        } else {
            text.append('[');
            drawDeep(text, depth - 1);
            text.append(']').append(random.nextInt(9) == 0 ? " or not 1=2" : "");
        }
    }

    private void drawTest(StringBuilder text, int depth) {
        int facts = small(1, 3);
        for (int i = 0; i < facts; i++) {
            text.append(i == 0 ? "" : random.nextBoolean() ? " and " : " or ");
            int kind = depth > 3 ? random.nextInt(2) : random.nextInt(4);
            if (kind == 0 && depth > 0) {
                text.append("not ").append(depth > 3 ? "[" : "[ ");
                drawTest(text, depth - 2);
                text.append(" ]");
            } else if (kind == 1 && depth > 0) {
                text.append('[');
                drawTest(text, depth - 1);
                text.append(']');
            } else {
                drawSum(text, 2);
                text.append(SIGNS[random.nextInt(5)]);
                drawSum(text, 2);
            }
        }
    }

    private void drawSum(StringBuilder text, int most) {
        int values = small(1, most);
        for (int i = 0; i < values; i++) {
            text.append(i == 0 ? "" : random.nextInt(5) == 0 ? " " : "");
            text.append(i == 0 ? "" : "" + "+-*/%+*".charAt(random.nextInt(7)));
            text.append(random.nextInt(3) == 0
                    ? "" + small(0, random.nextInt(9) == 0 ? 99999 : 20)
                    : WORDS[random.nextInt(WORDS.length)]);
        }
    }

    private String broken(String text) {
        StringBuilder broken = new StringBuilder(text);
        int changes = small(1, 3);
        for (int i = 0; i < changes && broken.length() > 0; i++) {
            int at = random.nextInt(broken.length());
            char b = random.nextInt(20) == 0 ? (char) random.nextInt(256)
                    : BYTES.charAt(random.nextInt(BYTES.length()));
            switch (random.nextInt(4)) {
                case 0: broken.setCharAt(at, b); break;
                case 1: broken.insert(at, b); break;
                case 2: broken.deleteCharAt(at); break;
                default: broken.setLength(at); break;
            }
        }
        return broken.toString();
    }
}
