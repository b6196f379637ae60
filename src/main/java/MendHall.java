import java.util.Arrays;

/**
 * Who can mend what: a hall of sorts, menders and things, told in a language, minutes by hand, and
 * what can be asked of how it goes on. ../shared/DOC.md says what each call answers.
 */
public final class MendHall {
    public static final int NONE = -1;

    private static final int NOT_SUCH = -2;
    private static final int NOT_ASKED = -3;
    private static final int MOST_BYTES = 400;
    private static final int MOST_RULES = 6;
    private static final int MOST_IMAGES = 4;
    private static final int MOST_SORTS = 4;
    private static final int MOST_MENDERS = 4;
    private static final int MOST_THINGS = 7;
    private static final int MOST_PARTS = 99;
    private static final int MOST_COFFEE = 60;
    private static final int MOST_SATURDAYS = 10;
    private static final int MOST_DELAY = 60;
    private static final int LAST_MINUTE = 999;
    private static final int FAR = 400;

    private static final int NOT_COME = 0;
    private static final int WAITING = 1;
    private static final int IN_WORK = 2;
    private static final int MENDED = 3;
    private static final int GONE = 4;

    private final int[] tape = new int[MOST_BYTES];
    private int tapeLength;
    private final HallReader hallReader = new HallReader(tape);
    private final RuleReader ruleReader = new RuleReader(tape);
    private final Rule[] rules = new Rule[MOST_RULES];
    private int ruleCount;
    private final Judge judge = new Judge();
    private final State state = new State(judge);
    private final Day day = state.day;
    private final Asks asks = new Asks(day, judge);
    private final State[] images = new State[MOST_IMAGES];

    public MendHall() {
    }

    public int feed(int a, int b, int c, int d, int e) {
        if (tapeLength + 20 > MOST_BYTES) {
            return NONE;
        }
        putFour(a);
        putFour(b);
        putFour(c);
        putFour(d);
        putFour(e);
        return tapeLength;
    }

    private void putFour(int number) {
        for (int shift = 24; shift >= 0 && tapeLength < MOST_BYTES; shift -= 8) {
            tape[tapeLength] = number >> shift & 255;
            tapeLength++;
        }
    }

    public int end(int n) {
        if (n < 0 || n > tapeLength) {
            return NONE;
        }
        tapeLength = n;
        return n;
    }

    public int hall() {
        int fault = hallReader.readAll(tapeLength);
        tapeLength = 0;
        if (fault != 0) {
            return NOT_SUCH - fault;
        }
        state.open(hallReader.hall);
        return day.hall.things;
    }

    public int rule() {
        if (ruleCount >= MOST_RULES) {
            return NONE;
        }
        int fault = ruleReader.readAll(tapeLength);
        tapeLength = 0;
        if (fault != 0) {
            return NOT_SUCH - fault;
        }
        rules[ruleCount] = ruleReader.made();
        ruleCount++;
        return ruleCount - 1;
    }

    public int force(int rule) {
        if (rule != NONE && (rule < 0 || rule >= ruleCount)) {
            return NOT_SUCH;
        }
        int before = state.inForce;
        state.inForce = rule;
        day.rule = ruleOf(rule);
        return before;
    }

    private Rule ruleOf(int rule) {
        return rule >= 0 && rule < ruleCount ? rules[rule] : null;
    }

    public int thing(int thing, int what) {
        if (!day.hall.isThing(thing)) {
            return NOT_SUCH;
        }
        switch (what) {
            case 0:
                return day.hall.sortOf[thing];
            case 1:
                return day.hall.come[thing];
            case 2:
                return day.hall.worth[thing];
            case 3:
                return day.hall.needs[thing];
            case 4:
                return day.howIs(thing);
            case 5:
                return day.row[Day.WHEN + thing];
            default:
                return NOT_SUCH;
        }
    }

    public int mender(int mender, int what) {
        if (!day.hall.isMender(mender)) {
            return NOT_SUCH;
        }
        switch (what) {
            case 0:
                return day.row[Day.MENDS + mender];
            case 1:
                return day.row[Day.TO_GO + mender];
            case 2:
                return day.row[Day.COFFEE + mender];
            case 3:
                return day.row[Day.IDLE + mender];
            case 4:
            case 5:
            case 6:
            case 7:
                int minutes = day.hall.skillOf(mender, what - 4);
                return minutes > 0 ? minutes : NONE;
            default:
                return NOT_SUCH;
        }
    }

    public int sort(int sort, int what) {
        if (!day.hall.isSort(sort) || what < 0 || what > 1) {
            return NONE;
        }
        return what == 0 ? day.hall.look[sort] : day.row[Day.PARTS + sort];
    }

    public int minute() {
        if (!state.told || day.minuteNow() >= LAST_MINUTE) {
            return NONE;
        }
        state.keepForUndo();
        return day.goOn();
    }

    public int give(int mender, int thing) {
        if (!day.hall.isMender(mender) || !day.hall.isThing(thing)
                || !day.isFree(mender) || !day.canTake(mender, thing)) {
            return NONE;
        }
        state.keepForUndo();
        day.begin(mender, thing);
        return day.row[Day.TO_GO + mender];
    }

    public int putDown(int mender) {
        if (!day.hall.isMender(mender) || day.isFree(mender)) {
            return NONE;
        }
        state.keepForUndo();
        return day.layDown(mender);
    }

    public int bring(int sort) {
        if (!day.hall.isSort(sort) || day.row[Day.PARTS + sort] >= MOST_PARTS) {
            return NONE;
        }
        state.keepForUndo();
        day.row[Day.PARTS + sort]++;
        return day.row[Day.PARTS + sort];
    }

    public int coffee(int mender, int minutes) {
        if (!day.hall.isMender(mender) || minutes < 1 || minutes > MOST_COFFEE
                || !day.isFree(mender) || day.row[Day.COFFEE + mender] > 0) {
            return NONE;
        }
        state.keepForUndo();
        day.row[Day.COFFEE + mender] = minutes;
        return day.atCoffee();
    }

    public int undo() {
        if (state.acts <= 0) {
            return NOT_SUCH;
        }
        state.undoLast();
        return state.acts;
    }

    public int ahead(int number, int n, int what) {
        if (!state.told || n < 0 || n > FAR) {
            return NOT_SUCH;
        }
        switch (what) {
            case 0:
                return day.hall.isThing(number) ? asks.dayAfter(n).howIs(number) : NOT_SUCH;
            case 1:
                return day.hall.isMender(number)
                        ? asks.dayAfter(n).row[Day.MENDS + number] : NOT_SUCH;
            case 2:
                return asks.dayAfter(n).saved();
            default:
                return NOT_SUCH;
        }
    }

    public int done(int thing) {
        return day.hall.isThing(thing) ? asks.whenMended(thing) : NONE;
    }

    public int waits(int thing) {
        if (!day.hall.isThing(thing) || day.howIs(thing) > WAITING) {
            return NONE;
        }
        return asks.minutesTillTaken(thing);
    }

    public int take(int mender, int what) {
        if (!day.hall.isMender(mender) || !day.isFree(mender) || what < 0 || what > 1) {
            return NOT_SUCH;
        }
        asks.findTake(mender);
        return what == 0 ? asks.choice : asks.most;
    }

    public int match(int what) {
        if (!state.told || what < 0 || what > 5) {
            return NOT_ASKED;
        }
        int mender = what - 2;
        if (mender >= 0 && (!day.hall.isMender(mender) || !day.isFree(mender))) {
            return NOT_SUCH;
        }
        Matching matching = asks.findMatch();
        if (mender >= 0) {
            return matching.best[mender];
        }
        return what == 0 ? matching.mostWorth : matching.fewestMinutes;
    }

    public int swap(int what) {
        if (!state.told || what < 0 || what > 2) {
            return NONE;
        }
        int best = 0;
        int bestFirst = NOT_SUCH;
        int bestSecond = NOT_SUCH;
        for (int first = 0; first < day.hall.menders; first++) {
            for (int second = first + 1; second < day.hall.menders; second++) {
                int less = day.lessBySwap(first, second);
                if (less > best) {
                    best = less;
                    bestFirst = first;
                    bestSecond = second;
                }
            }
        }
        if (what == 0) {
            return best > 0 ? best : NOT_SUCH;
        }
        return what == 1 ? bestFirst : bestSecond;
    }

    public int part(int what) {
        if (!state.told || what < 0 || what > 1) {
            return NOT_SUCH;
        }
        asks.findPart();
        return what == 0 ? asks.choice : asks.most;
    }

    public int askIn(int what) {
        if (!state.told || what < 0 || what > 1) {
            return NOT_SUCH;
        }
        asks.findGuest();
        return what == 0 ? asks.choice : asks.most;
    }

    public int late(int sort) {
        return day.hall.isSort(sort) ? asks.lastCome(sort) : NONE;
    }

    public int idle(int mender) {
        return day.hall.isMender(mender) ? asks.idleAtEnd(mender) : NONE;
    }

    public int book(int n, int thing, int how) {
        if (n == NONE) {
            state.books.size = 0;
            return 0;
        }
        if (n < 0 || n >= FAR || !day.hall.isThing(thing) || how < NOT_COME || how > GONE
                || state.books.size >= Books.MOST) {
            return NOT_SUCH;
        }
        state.books.write(n, thing, how);
        return state.books.size;
    }

    public int ruled(int what) {
        if (!state.told || what < 0 || what > 1) {
            return NOT_ASKED;
        }
        Books books = state.books;
        books.sift(rules, ruleCount, asks, 0);
        return what == 0 ? books.fitting : books.first;
    }

    public int look(int n, int what) {
        if (!state.told || n < 0 || n >= FAR || what < 0 || what > 1) {
            return NONE;
        }
        Books books = state.books;
        books.sift(rules, ruleCount, asks, n);
        int thing = books.partingThing(day.hall.things);
        if (books.fitting == 0 || thing == NONE) {
            return NOT_SUCH;
        }
        return what == 0 ? thing : books.mostAlike(thing);
    }

    public int seed(int x) {
        if (x < 0) {
            return NONE;
        }
        int before = state.x;
        state.x = x;
        return before;
    }

    public int saturdays(int m, int p, int what) {
        if (!state.told || m < 1 || m > MOST_SATURDAYS || p < 0 || p > MOST_DELAY
                || what < 0 || what > 1) {
            return NONE;
        }
        int x = state.x;
        int saved = 0;
        int gone = 0;
        for (int saturday = 0; saturday < m; saturday++) {
            x = asks.saturday(x, p + 1);
            saved += asks.trial.saved();
            gone += Integer.bitCount(asks.trial.bitsOf(GONE));
        }
        return what == 0 ? saved : gone;
    }

    public int count(int what) {
        switch (what) {
            case 0:
                return day.hall.end;
            case 1:
                return day.hall.wait;
            case 2:
                return day.hall.sorts;
            case 3:
                return day.hall.menders;
            case 4:
                return day.hall.things;
            case 5:
                return ruleCount;
            case 6:
                return state.inForce;
            case 7:
                return day.minuteNow();
            case 8:
            case 9:
            case 10:
            case 11:
                return day.bitsOf(WAITING + what - 8);
            case 12:
                return day.saved();
            case 13:
                return state.books.size;
            case 14:
                return state.acts;
            case 15:
                return state.x;
            case 16:
                return tapeLength;
            default:
                return NONE;
        }
    }

    public int image(int k) {
        if (k < 0 || k >= MOST_IMAGES) {
            return NONE;
        }
        if (images[k] == null) {
            images[k] = new State(judge);
        }
        images[k].copy(state);
        return day.minuteNow();
    }

    public int back(int k) {
        if (k < 0 || k >= MOST_IMAGES || images[k] == null) {
            return NONE;
        }
        state.copy(images[k]);
        return day.minuteNow();
    }

    /** All that an IMAGE keeps. */
    private static final class State {
        static final int MOST_ACTS = 20;

        final Day day;
        final Books books = new Books();
        boolean told;
        int inForce = NONE;
        int x;
        /** How it was before each of the last ACTS, round and round. */
        final int[] rows = new int[MOST_ACTS * Day.LENGTH];
        int nextRow;
        int acts;

        State(Judge judge) {
            day = new Day(judge);
        }

        void open(Hall hall) {
            day.hall.copy(hall);
            day.clear();
            books.size = 0;
            acts = 0;
            told = true;
        }

        void keepForUndo() {
            System.arraycopy(day.row, 0, rows, nextRow * Day.LENGTH, Day.LENGTH);
            nextRow = (nextRow + 1) % MOST_ACTS;
            acts = Math.min(acts + 1, MOST_ACTS);
        }

        void undoLast() {
            if (acts > 0) {
                nextRow = (nextRow + MOST_ACTS - 1) % MOST_ACTS;
                acts--;
                System.arraycopy(rows, nextRow * Day.LENGTH, day.row, 0, Day.LENGTH);
            }
        }

        void copy(State from) {
            day.copy(from.day);
            books.copy(from.books);
            told = from.told;
            inForce = from.inForce;
            x = from.x;
            System.arraycopy(from.rows, 0, rows, 0, MOST_ACTS * Day.LENGTH);
            nextRow = from.nextRow;
            acts = from.acts;
        }
    }

    /** A HALL as its text told it. */
    private static final class Hall {
        int end;
        int wait;
        int sorts;
        int menders;
        int things;
        final int[] look = new int[MOST_SORTS];
        final int[] parts = new int[MOST_SORTS];
        /** By MENDER and SORT; 0 is no skill. */
        final int[] skills = new int[MOST_MENDERS * MOST_SORTS];
        final int[] sortOf = new int[MOST_THINGS];
        final int[] come = new int[MOST_THINGS];
        final int[] worth = new int[MOST_THINGS];
        final int[] needs = new int[MOST_THINGS];

        void clear() {
            sorts = 0;
            menders = 0;
            things = 0;
            Arrays.fill(skills, 0);
        }

        void copy(Hall from) {
            end = from.end;
            wait = from.wait;
            sorts = from.sorts;
            menders = from.menders;
            things = from.things;
            System.arraycopy(from.look, 0, look, 0, MOST_SORTS);
            System.arraycopy(from.parts, 0, parts, 0, MOST_SORTS);
            System.arraycopy(from.skills, 0, skills, 0, MOST_MENDERS * MOST_SORTS);
            System.arraycopy(from.sortOf, 0, sortOf, 0, MOST_THINGS);
            System.arraycopy(from.come, 0, come, 0, MOST_THINGS);
            System.arraycopy(from.worth, 0, worth, 0, MOST_THINGS);
            System.arraycopy(from.needs, 0, needs, 0, MOST_THINGS);
        }

        boolean isSort(int sort) {
            return sort >= 0 && sort < sorts;
        }

        boolean isMender(int mender) {
            return mender >= 0 && mender < menders;
        }

        boolean isThing(int thing) {
            return thing >= 0 && thing < things;
        }

        /** 0 without a skill, and for a SORT that there is not. */
        int skillOf(int mender, int sort) {
            int at = mender * MOST_SORTS + sort;
            return at >= 0 && at < skills.length ? skills[at] : 0;
        }

        boolean hasSkillFor(int sort) {
            for (int mender = 0; mender < menders; mender++) {
                if (skillOf(mender, sort) > 0) {
                    return true;
                }
            }
            return false;
        }

        void addSort(int itsLook, int itsParts) {
            if (sorts < MOST_SORTS) {
                look[sorts] = itsLook;
                parts[sorts] = itsParts;
                sorts++;
            }
        }

        void addMender() {
            if (menders < MOST_MENDERS) {
                menders++;
            }
        }

        void setSkill(int mender, int sort, int minutes) {
            if (isMender(mender) && isSort(sort)) {
                skills[mender * MOST_SORTS + sort] = minutes;
            }
        }

        void addThing(int itsSort, int itsCome, int itsWorth, int itsNeeds) {
            if (things < MOST_THINGS) {
                sortOf[things] = itsSort;
                come[things] = itsCome;
                worth[things] = itsWorth;
                needs[things] = itsNeeds;
                things++;
            }
        }
    }

    /** How it is in a HALL in some minute, and by which RULE it goes on. */
    private static final class Day {
        /** The places in the row, which is one so that ACTS can keep it by one copy. */
        static final int MINUTE = 0;
        static final int PARTS = 1;
        static final int MENDS = PARTS + MOST_SORTS;
        static final int TO_GO = MENDS + MOST_MENDERS;
        static final int COFFEE = TO_GO + MOST_MENDERS;
        static final int IDLE = COFFEE + MOST_MENDERS;
        static final int HOW = IDLE + MOST_MENDERS;
        static final int WHEN = HOW + MOST_THINGS;
        static final int LENGTH = WHEN + MOST_THINGS;

        final Hall hall = new Hall();
        final int[] row = new int[LENGTH];
        final Judge judge;
        Rule rule;

        Day(Judge judge) {
            this.judge = judge;
        }

        /** Minute 0, all as the text told it; the RULE stays. */
        void clear() {
            Arrays.fill(row, 0);
            System.arraycopy(hall.parts, 0, row, PARTS, MOST_SORTS);
            for (int mender = 0; mender < MOST_MENDERS; mender++) {
                row[MENDS + mender] = NONE;
            }
            for (int thing = 0; thing < MOST_THINGS; thing++) {
                row[WHEN + thing] = NONE;
            }
        }

        void copy(Day from) {
            hall.copy(from.hall);
            System.arraycopy(from.row, 0, row, 0, LENGTH);
            rule = from.rule;
        }

        int minuteNow() {
            return row[MINUTE];
        }

        int howIs(int thing) {
            return row[HOW + thing];
        }

        boolean isFree(int mender) {
            return row[MENDS + mender] == NONE;
        }

        /** Whether a MENDER who is free can. */
        boolean canTake(int mender, int thing) {
            int sort = hall.sortOf[thing];
            return row[HOW + thing] == WAITING && hall.skillOf(mender, sort) > 0
                    && (hall.needs[thing] == 0 || row[PARTS + sort] > 0);
        }

        /** MINUTES and LOOK together. */
        int effort(int mender, int thing) {
            int sort = hall.sortOf[thing];
            return hall.skills[mender * MOST_SORTS + sort] + hall.look[sort];
        }

        void begin(int mender, int thing) {
            row[PARTS + hall.sortOf[thing]] -= hall.needs[thing];
            row[HOW + thing] = IN_WORK;
            row[MENDS + mender] = thing;
            row[TO_GO + mender] = effort(mender, thing);
        }

        int layDown(int mender) {
            int thing = row[MENDS + mender];
            if (hall.isThing(thing)) {
                row[HOW + thing] = WAITING;
            }
            row[MENDS + mender] = NONE;
            row[TO_GO + mender] = 0;
            return thing;
        }

        int atCoffee() {
            int number = 0;
            for (int mender = 0; mender < hall.menders; mender++) {
                if (row[COFFEE + mender] > 0) {
                    number++;
                }
            }
            return number;
        }

        int saved() {
            int sum = 0;
            for (int thing = 0; thing < hall.things; thing++) {
                if (row[HOW + thing] == MENDED) {
                    sum += hall.worth[thing];
                }
            }
            return sum;
        }

        int bitsOf(int how) {
            int bits = 0;
            for (int thing = 0; thing < hall.things; thing++) {
                if (row[HOW + thing] == how) {
                    bits |= 1 << thing;
                }
            }
            return bits;
        }

        /** 0 if they can't. */
        int lessBySwap(int first, int second) {
            int one = row[MENDS + first];
            int other = row[MENDS + second];
            if (!hall.isThing(one) || !hall.isThing(other)
                    || hall.skillOf(first, hall.sortOf[other]) == 0
                    || hall.skillOf(second, hall.sortOf[one]) == 0) {
                return 0;
            }
            return row[TO_GO + first] + row[TO_GO + second]
                    - effort(first, other) - effort(second, one);
        }

        /** A MINUTE: the THINGS MENDED in it, as bits. */
        int goOn() {
            boolean anyWaits = comeAndGo();
            for (int mender = 0; mender < hall.menders && anyWaits; mender++) {
                if (row[MENDS + mender] == NONE && row[COFFEE + mender] == 0) {
                    int thing = judge.choose(this, mender);
                    if (thing != NONE) {
                        begin(mender, thing);
                    }
                }
            }
            int mended = work();
            for (int mender = 0; mender < hall.menders; mender++) {
                if (row[COFFEE + mender] > 0) {
                    row[COFFEE + mender]--;
                }
            }
            row[MINUTE]++;
            return mended;
        }

        /** Whether any THING waits then: from END on none does. */
        private boolean comeAndGo() {
            int minute = row[MINUTE];
            boolean anyWaits = false;
            for (int thing = 0; thing < hall.things; thing++) {
                if (row[HOW + thing] == NOT_COME && hall.come[thing] == minute) {
                    row[HOW + thing] = WAITING;
                }
                if (row[HOW + thing] == WAITING) {
                    boolean goes = minute - hall.come[thing] >= hall.wait || minute >= hall.end;
                    row[HOW + thing] = goes ? GONE : WAITING;
                    anyWaits = anyWaits || !goes;
                }
            }
            return anyWaits;
        }

        private int work() {
            int mended = 0;
            for (int mender = 0; mender < hall.menders; mender++) {
                int thing = row[MENDS + mender];
                if (!hall.isThing(thing)) {
                    if (row[MINUTE] < hall.end) {
                        row[IDLE + mender]++;
                    }
                    continue;
                }
                row[TO_GO + mender]--;
                if (row[TO_GO + mender] <= 0) {
                    row[HOW + thing] = MENDED;
                    row[WHEN + thing] = row[MINUTE];
                    row[MENDS + mender] = NONE;
                    mended |= 1 << thing;
                }
            }
            return mended;
        }

        /** MINUTES in which nothing can change any more (but who is idle) are left out. */
        void goFar(int minutes) {
            for (int n = 0; n < minutes && !isOver(); n++) {
                goOn();
            }
        }

        private boolean isOver() {
            for (int thing = 0; thing < hall.things; thing++) {
                if (row[HOW + thing] < MENDED) {
                    return false;
                }
            }
            return true;
        }
    }

    /** Which THING a MENDER takes in a MINUTE. */
    private static final class Judge {
        /** Above each COME, so that without a RULE the first to come has the greatest number. */
        static final int LATEST = 1000;

        final long[] words = new long[Rule.WORD_COUNT];
        final long[] stack = new long[Rule.STACK];

        int choose(Day day, int mender) {
            int best = NONE;
            long most = 0;
            if (day.rule != null) {
                tellMender(day, mender);
            }
            for (int thing = 0; thing < day.hall.things; thing++) {
                if (day.canTake(mender, thing)) {
                    long sum = LATEST - day.hall.come[thing];
                    if (day.rule != null) {
                        tellThing(day, mender, thing);
                        sum = day.rule.sum(words, stack);
                    }
                    if (sum > most) {
                        most = sum;
                        best = thing;
                    }
                }
            }
            return best;
        }

        private void tellMender(Day day, int mender) {
            int free = 0;
            for (int other = 0; other < day.hall.menders; other++) {
                if (day.isFree(other)) {
                    free++;
                }
            }
            int skills = 0;
            for (int sort = 0; sort < day.hall.sorts; sort++) {
                if (day.hall.skillOf(mender, sort) > 0) {
                    skills++;
                }
            }
            words[Rule.MENDER] = mender;
            words[Rule.QUEUE] = Integer.bitCount(day.bitsOf(WAITING));
            words[Rule.LEFT] = day.hall.end - day.row[Day.MINUTE];
            words[Rule.FREE] = free;
            words[Rule.SKILLS] = skills;
        }

        private void tellThing(Day day, int mender, int thing) {
            int sort = day.hall.sortOf[thing];
            words[Rule.THING] = thing;
            words[Rule.SORT] = sort;
            words[Rule.WORTH] = day.hall.worth[thing];
            words[Rule.WAITED] = day.row[Day.MINUTE] - day.hall.come[thing];
            words[Rule.MINUTES] = day.effort(mender, thing);
            words[Rule.NEEDS] = day.hall.needs[thing];
            words[Rule.PARTS] = day.row[Day.PARTS + sort];
        }
    }

    /** A RULE's CLAUSES, each its SUM and then its TEST, operators behind what they join. */
    private static final class Rule {
        static final String WORDS =
                "mender thing sort worth waited minutes needs parts queue left free skills";
        static final int MENDER = 0;
        static final int THING = 1;
        static final int SORT = 2;
        static final int WORTH = 3;
        static final int WAITED = 4;
        static final int MINUTES = 5;
        static final int NEEDS = 6;
        static final int PARTS = 7;
        static final int QUEUE = 8;
        static final int LEFT = 9;
        static final int FREE = 10;
        static final int SKILLS = 11;
        static final int WORD_COUNT = 12;
        /** A SUM, two for each of 11 TESTS, and four of the innermost FACT stand open at most. */
        static final int STACK = 32;

        /** The kinds of steps; below them a number or a WORD's number, in OPERAND_BITS. */
        static final int OPERAND_BITS = 20;
        static final int NUMBER = 0;
        static final int WORD = 1;
        static final int PLUS = 2;
        static final int LESS = 3;
        static final int TIMES = 4;
        static final int BY = 5;
        static final int REST = 6;
        static final int BELOW = 7;
        static final int AT_MOST = 8;
        static final int SAME = 9;
        static final int AT_LEAST = 10;
        static final int ABOVE = 11;
        static final int AND = 12;
        static final int OR = 13;
        static final int NOT = 14;
        static final int CLAUSE = 15;
        static final int CLAUSE_IF = 16;

        final int[] steps;

        Rule(int[] steps) {
            this.steps = steps;
        }

        /** The SUM of the first CLAUSE that holds, 0 without. */
        long sum(long[] words, long[] stack) {
            int top = 0;
            for (int i = 0; i < steps.length; i++) {
                int kind = steps[i] >> OPERAND_BITS;
                if (kind <= WORD) {
                    if (top < stack.length) {
                        stack[top] = valueOf(kind, steps[i], words);
                        top++;
                    }
                } else if (kind == NOT) {
                    if (top >= 1) {
                        stack[top - 1] = 1 - stack[top - 1];
                    }
                } else if (kind == CLAUSE) {
                    return top >= 1 ? stack[top - 1] : 0;
                } else if (kind == CLAUSE_IF) {
                    if (top >= 2 && stack[top - 1] != 0) {
                        return stack[top - 2];
                    }
                    top = 0;
                } else if (top >= 2) {
                    top--;
                    stack[top - 1] = joined(kind, stack[top - 1], stack[top]);
                }
            }
            return 0;
        }

        private static long valueOf(int kind, int step, long[] words) {
            int operand = step & (1 << OPERAND_BITS) - 1;
            if (kind == NUMBER) {
                return operand;
            }
            return operand < words.length ? words[operand] : 0;
        }

        private static long joined(int kind, long a, long b) {
            switch (kind) {
                case PLUS:
                    return a + b;
                case LESS:
                    return a - b;
                case TIMES:
                    return a * b;
                case BY:
                    return b == 0 ? 0 : a / b;
                case REST:
                    return b == 0 ? 0 : a % b;
                case BELOW:
                    return a < b ? 1 : 0;
                case AT_MOST:
                    return a <= b ? 1 : 0;
                case SAME:
                    return a == b ? 1 : 0;
                case AT_LEAST:
                    return a >= b ? 1 : 0;
                case ABOVE:
                    return a > b ? 1 : 0;
                case AND:
                    return a & b;
                default:
                    return a | b;
            }
        }
    }

    /** Goes along the TAPE, from one number, WORD or sign to the next, up to the first FAULT. */
    private static final class Reader {
        static final int OUT_OF_PLACE = 0;
        static final int NOT_AS_TOLD = 1;
        static final int TOO_DEEP = 2;
        static final int ONE_TOO_MANY = 3;
        static final int CLAUSE_TOO_MANY = 4;

        static final int AT_END = 0;
        static final int AT_WORD = 1;
        static final int AT_NUMBER = 2;
        static final int AT_SIGN = 3;
        static final int AT_FAULT = 4;

        /** Added to the byte of a SIGN behind which = stands. */
        static final int OR_SAME = 256;
        static final int MOST_DIGITS = 5;
        /** Stands for a number of more digits. */
        static final int TOO_LONG = -1;

        final int[] text;
        int length;
        int at;
        int kind;
        int place;
        int sign;
        int number;
        int fault;

        Reader(int[] text) {
            this.text = text;
        }

        void start(int itsLength) {
            length = Math.min(itsLength, text.length);
            at = 0;
            fault = 0;
            next();
        }

        void next() {
            while (at < length && text[at] == ' ') {
                at++;
            }
            place = at;
            sign = at < length ? text[at] : 0;
            number = 0;
            if (at >= length) {
                kind = AT_END;
            } else if (sign >= 'a' && sign <= 'z') {
                kind = AT_WORD;
                while (at < length && text[at] >= 'a' && text[at] <= 'z') {
                    at++;
                }
            } else if (sign >= '0' && sign <= '9') {
                kind = AT_NUMBER;
                while (at < length && text[at] >= '0' && text[at] <= '9') {
                    number = at - place < MOST_DIGITS ? number * 10 + text[at] - '0' : TOO_LONG;
                    at++;
                }
            } else {
                kind = AT_SIGN;
                at++;
                if ((sign == '<' || sign == '>') && at < length && text[at] == '=') {
                    sign += OR_SAME;
                    at++;
                }
            }
        }

        /** Nothing is read any more: no sign, WORD or number is at hand then. */
        void fail(int why) {
            if (fault == 0) {
                fault = 1 + 8 * place + why;
            }
            at = length;
            kind = AT_FAULT;
        }

        void expectEnd() {
            if (kind != AT_END) {
                fail(OUT_OF_PLACE);
            }
        }

        boolean isSign(int which) {
            return kind == AT_SIGN && sign == which;
        }

        boolean isWord(String word) {
            return wordIn(word) == 0;
        }

        /** Which of the words, between which one blank stands, is at hand. */
        int wordIn(String words) {
            if (kind != AT_WORD) {
                return NONE;
            }
            int letters = at - place;
            int which = 0;
            int i = 0;
            boolean isSame = true;
            for (int n = 0; n <= words.length(); n++) {
                if (n < words.length() && words.charAt(n) != ' ') {
                    isSame = isSame && i < letters && text[place + i] == words.charAt(n);
                    i++;
                } else if (isSame && i == letters) {
                    return which;
                } else {
                    which++;
                    i = 0;
                    isSame = true;
                }
            }
            return NONE;
        }

        int takeNumber(int least, int most) {
            int told = number;
            if (kind != AT_NUMBER) {
                fail(OUT_OF_PLACE);
            } else if (told < least || told > most) {
                fail(NOT_AS_TOLD);
            } else {
                next();
            }
            return told;
        }
    }

    /** Reads a HALL. */
    private static final class HallReader {
        static final String CLAUSES = "hall sort mender skill thing";
        static final int HALL = 0;
        static final int SORT = 1;
        static final int MENDER = 2;
        static final int SKILL = 3;
        static final int THING = 4;
        static final int MOST_CLAUSES = 40;

        final Reader reader;
        final Hall hall = new Hall();

        HallReader(int[] text) {
            reader = new Reader(text);
        }

        /** The FAULT, or 0: the HALL is as told then. */
        int readAll(int length) {
            hall.clear();
            reader.start(length);
            readClause(0);
            for (int n = 1; n <= MOST_CLAUSES && reader.isSign(';'); n++) {
                reader.next();
                readClause(n);
            }
            reader.expectEnd();
            return reader.fault;
        }

        private void readClause(int before) {
            int word = reader.wordIn(CLAUSES);
            if (word == NONE) {
                reader.fail(Reader.OUT_OF_PLACE);
                return;
            }
            if (isOneTooMany(word, before)) {
                reader.fail(Reader.CLAUSE_TOO_MANY);
                return;
            }
            reader.next();
            switch (word) {
                case HALL:
                    hall.end = reader.takeNumber(1, 300);
                    hall.wait = reader.takeNumber(1, 300);
                    break;
                case SORT:
                    readSort();
                    break;
                case MENDER:
                    hall.addMender();
                    break;
                case SKILL:
                    readSkill();
                    break;
                default:
                    readThing();
                    break;
            }
        }

        private boolean isOneTooMany(int word, int before) {
            return before >= MOST_CLAUSES
                    || (word == HALL) != (before == 0)
                    || word == SORT && hall.sorts >= MOST_SORTS
                    || word == MENDER && hall.menders >= MOST_MENDERS
                    || word == THING && hall.things >= MOST_THINGS;
        }

        private void readSort() {
            int look = reader.takeNumber(0, 9);
            int parts = reader.takeNumber(0, 9);
            if (reader.fault == 0) {
                hall.addSort(look, parts);
            }
        }

        private void readSkill() {
            int mender = reader.takeNumber(0, hall.menders - 1);
            int sort = reader.takeNumber(0, hall.sorts - 1);
            int minutes = reader.takeNumber(1, 60);
            if (reader.fault == 0) {
                hall.setSkill(mender, sort, minutes);
            }
        }

        private void readThing() {
            int sort = reader.takeNumber(0, hall.sorts - 1);
            int come = reader.takeNumber(0, 299);
            int worth = reader.takeNumber(1, 30);
            int needs = reader.takeNumber(0, 1);
            if (reader.fault == 0) {
                hall.addThing(sort, come, worth, needs);
            }
        }
    }

    /** Reads a RULE. */
    private static final class RuleReader {
        static final int MOST_CLAUSES = 12;
        static final int MOST_DEPTH = 10;
        static final int MOST_COUNTED = 60;

        final Reader reader;
        /** Each step has a byte of the text at least that is its own. */
        final int[] steps = new int[MOST_BYTES];
        int size;
        int counted;

        RuleReader(int[] text) {
            reader = new Reader(text);
        }

        /** The FAULT, or 0: the RULE can be made then. */
        int readAll(int length) {
            size = 0;
            counted = 0;
            reader.start(length);
            readClause(0);
            for (int n = 1; n <= MOST_CLAUSES && reader.isSign(';'); n++) {
                reader.next();
                readClause(n);
            }
            reader.expectEnd();
            return reader.fault;
        }

        Rule made() {
            return new Rule(Arrays.copyOf(steps, size));
        }

        private void readClause(int before) {
            if (!reader.isWord("take")) {
                reader.fail(Reader.OUT_OF_PLACE);
                return;
            }
            if (before >= MOST_CLAUSES) {
                reader.fail(Reader.CLAUSE_TOO_MANY);
                return;
            }
            reader.next();
            readSum();
            if (reader.isWord("if")) {
                reader.next();
                readTest(0);
                putStep(Rule.CLAUSE_IF, 0);
            } else {
                putStep(Rule.CLAUSE, 0);
            }
        }

        /** The depth is how many [ and not it lies within. */
        private void readTest(int depth) {
            for (int parts = 0; parts < MOST_BYTES; parts++) {
                readFact(depth);
                for (int n = 0; n < MOST_BYTES && reader.isWord("and"); n++) {
                    reader.next();
                    readFact(depth);
                    putStep(Rule.AND, 0);
                }
                if (parts > 0) {
                    putStep(Rule.OR, 0);
                }
                if (!reader.isWord("or")) {
                    return;
                }
                reader.next();
            }
        }

        private void readFact(int depth) {
            boolean isNot = reader.isWord("not");
            if (!isNot && !reader.isSign('[')) {
                readSum();
                int step = stepAtHand();
                if (step < Rule.BELOW || step > Rule.ABOVE) {
                    reader.fail(Reader.OUT_OF_PLACE);
                } else if (counted >= MOST_COUNTED) {
                    reader.fail(Reader.ONE_TOO_MANY);
                } else {
                    counted++;
                    reader.next();
                    readSum();
                    putStep(step, 0);
                }
            } else if (depth >= MOST_DEPTH) {
                reader.fail(Reader.TOO_DEEP);
            } else if (isNot) {
                reader.next();
                readFact(depth + 1);
                putStep(Rule.NOT, 0);
            } else {
                reader.next();
                readTest(depth + 1);
                if (reader.isSign(']')) {
                    reader.next();
                } else {
                    reader.fail(Reader.OUT_OF_PLACE);
                }
            }
        }

        /** Each step that joins two waits till what it joins has been put. */
        private void readSum() {
            int inSum = NONE;
            int inTerm = NONE;
            for (int values = 0; values < MOST_BYTES; values++) {
                readValue();
                if (inTerm != NONE) {
                    putStep(inTerm, 0);
                }
                int step = stepAtHand();
                inTerm = step >= Rule.TIMES && step <= Rule.REST ? step : NONE;
                if (inTerm == NONE) {
                    if (inSum != NONE) {
                        putStep(inSum, 0);
                    }
                    inSum = step == Rule.PLUS || step == Rule.LESS ? step : NONE;
                    if (inSum == NONE) {
                        return;
                    }
                }
                reader.next();
            }
        }

        private int stepAtHand() {
            if (reader.kind != Reader.AT_SIGN) {
                return NONE;
            }
            switch (reader.sign) {
                case '+':
                    return Rule.PLUS;
                case '-':
                    return Rule.LESS;
                case '*':
                    return Rule.TIMES;
                case '/':
                    return Rule.BY;
                case '%':
                    return Rule.REST;
                case '<':
                    return Rule.BELOW;
                case '<' + Reader.OR_SAME:
                    return Rule.AT_MOST;
                case '=':
                    return Rule.SAME;
                case '>' + Reader.OR_SAME:
                    return Rule.AT_LEAST;
                case '>':
                    return Rule.ABOVE;
                default:
                    return NONE;
            }
        }

        private void readValue() {
            int word = reader.wordIn(Rule.WORDS);
            if (word == NONE && reader.kind != Reader.AT_NUMBER) {
                reader.fail(Reader.OUT_OF_PLACE);
            } else if (reader.number == Reader.TOO_LONG) {
                reader.fail(Reader.NOT_AS_TOLD);
            } else if (counted >= MOST_COUNTED) {
                reader.fail(Reader.ONE_TOO_MANY);
            } else {
                counted++;
                if (word == NONE) {
                    putStep(Rule.NUMBER, reader.number);
                } else {
                    putStep(Rule.WORD, word);
                }
                reader.next();
            }
        }

        private void putStep(int kind, int operand) {
            if (size < steps.length) {
                steps[size] = kind << Rule.OPERAND_BITS | operand;
                size++;
            }
        }
    }

    /** The BOOKS, by which RULES they came, and where to look to part these. */
    private static final class Books {
        static final int MOST = 10;
        static final int HOWS = GONE + 1;

        final int[] minutes = new int[MOST];
        final int[] things = new int[MOST];
        final int[] hows = new int[MOST];
        int size;
        /** What sift found: how many RULES fit, the first, and by THING and how it is, by how many. */
        int fitting;
        int first;
        final int[] alike = new int[MOST_THINGS * HOWS];

        void write(int minute, int thing, int how) {
            if (size < MOST) {
                minutes[size] = minute;
                things[size] = thing;
                hows[size] = how;
                size++;
            }
        }

        void copy(Books from) {
            System.arraycopy(from.minutes, 0, minutes, 0, MOST);
            System.arraycopy(from.things, 0, things, 0, MOST);
            System.arraycopy(from.hows, 0, hows, 0, MOST);
            size = from.size;
        }

        /** Which RULES fit, and how the THINGS are by these at the end of the n-th MINUTE. */
        void sift(Rule[] rules, int ruleCount, Asks asks, int n) {
            fitting = 0;
            first = NOT_SUCH;
            Arrays.fill(alike, 0);
            for (int rule = NONE; rule < ruleCount && rule < rules.length; rule++) {
                Rule tried = rule < 0 ? null : rules[rule];
                if (fits(asks.fromBegin(tried))) {
                    first = fitting == 0 ? rule : first;
                    fitting++;
                    noteThings(asks.fromBegin(tried), n);
                }
            }
        }

        private boolean fits(Day day) {
            int last = NONE;
            for (int book = 0; book < size; book++) {
                last = Math.max(last, minutes[book]);
            }
            for (int n = 0; n <= last; n++) {
                day.goOn();
                for (int book = 0; book < size; book++) {
                    if (minutes[book] == n && day.howIs(things[book]) != hows[book]) {
                        return false;
                    }
                }
            }
            return true;
        }

        private void noteThings(Day day, int n) {
            day.goFar(n + 1);
            for (int thing = 0; thing < day.hall.things; thing++) {
                alike[thing * HOWS + day.howIs(thing)]++;
            }
        }

        int mostAlike(int thing) {
            int most = 0;
            for (int how = 0; how < HOWS; how++) {
                most = Math.max(most, alike[thing * HOWS + how]);
            }
            return most;
        }

        int partingThing(int count) {
            int best = NONE;
            for (int thing = 0; thing < count; thing++) {
                if (best == NONE || mostAlike(thing) < mostAlike(best)) {
                    best = thing;
                }
            }
            return best;
        }
    }

    /** What is asked of how it goes on: it is tried on a day of its own. */
    private static final class Asks {
        static final int GUEST_MINUTES = 10;
        static final long DRAW_FACTOR = 1103515245L;
        static final long DRAW_MORE = 12345L;
        static final long DRAW_RANGE = 2147483648L;
        static final int DRAW_STEP = 65536;

        final Day now;
        final Day trial;
        final Matching matching;
        /** What findTake, findPart and findGuest found: which, and SAVED by it. */
        int choice;
        int most;

        Asks(Day now, Judge judge) {
            this.now = now;
            trial = new Day(judge);
            matching = new Matching(trial);
        }

        Day dayAfter(int minutes) {
            trial.copy(now);
            trial.goFar(minutes);
            return trial;
        }

        int whenMended(int thing) {
            trial.copy(now);
            goTillOver(thing);
            return trial.howIs(thing) == MENDED ? trial.row[Day.WHEN + thing] : NOT_SUCH;
        }

        private void goTillOver(int thing) {
            for (int n = 0; n < FAR && trial.howIs(thing) < MENDED; n++) {
                trial.goOn();
            }
        }

        int minutesTillTaken(int thing) {
            trial.copy(now);
            for (int n = 0; n < FAR; n++) {
                trial.goOn();
                if (trial.howIs(thing) > WAITING) {
                    return trial.minuteNow() - 1 - trial.hall.come[thing];
                }
            }
            return NOT_SUCH;
        }

        void findTake(int mender) {
            startTrials();
            tryChoice(NONE);
            for (int thing = 0; thing < now.hall.things; thing++) {
                if (now.canTake(mender, thing)) {
                    trial.copy(now);
                    trial.begin(mender, thing);
                    tryChoice(thing);
                }
            }
        }

        void findPart() {
            startTrials();
            tryChoice(NONE);
            for (int sort = 0; sort < now.hall.sorts; sort++) {
                trial.copy(now);
                trial.row[Day.PARTS + sort]++;
                tryChoice(sort);
            }
        }

        void findGuest() {
            startTrials();
            tryChoice(NONE);
            int guest = now.hall.menders;
            for (int sort = 0; sort < now.hall.sorts && guest < MOST_MENDERS; sort++) {
                trial.copy(now);
                trial.hall.addMender();
                trial.hall.setSkill(guest, sort, GUEST_MINUTES);
                tryChoice(sort);
            }
        }

        /** Behind it none is tried first, so that of several none is kept. */
        private void startTrials() {
            trial.copy(now);
            most = NONE;
        }

        private void tryChoice(int which) {
            trial.goFar(FAR);
            int saved = trial.saved();
            if (saved > most) {
                most = saved;
                choice = which;
            }
        }

        Matching findMatch() {
            trial.copy(now);
            matching.search();
            return matching;
        }

        int lastCome(int sort) {
            int more = now.hall.things;
            if (more >= MOST_THINGS || !now.hall.hasSkillFor(sort)) {
                return NOT_SUCH;
            }
            for (int come = now.hall.end; come >= now.minuteNow(); come--) {
                trial.copy(now);
                trial.hall.addThing(sort, come, 1, 0);
                goTillOver(more);
                if (trial.howIs(more) == MENDED) {
                    return come;
                }
            }
            return NOT_SUCH;
        }

        int idleAtEnd(int mender) {
            trial.copy(now);
            for (int n = 0; n < FAR && trial.minuteNow() < trial.hall.end; n++) {
                trial.goOn();
            }
            return trial.row[Day.IDLE + mender];
        }

        /** All as the text told it. */
        Day fromBegin(Rule rule) {
            trial.copy(now);
            trial.clear();
            trial.rule = rule;
            return trial;
        }

        /** One SATURDAY with DRAWS from x on: x behind them. */
        int saturday(int x, int range) {
            fromBegin(now.rule);
            for (int thing = 0; thing < trial.hall.things; thing++) {
                x = (int) ((x * DRAW_FACTOR + DRAW_MORE) % DRAW_RANGE);
                trial.hall.come[thing] += range > 0 ? x / DRAW_STEP % range : 0;
            }
            trial.goFar(FAR);
            return x;
        }
    }

    /** Which MENDERS who are free had best have which THINGS. */
    private static final class Matching {
        final Day day;
        final int[] tried = new int[MOST_MENDERS];
        final int[] best = new int[MOST_MENDERS];
        int mostWorth;
        int fewestMinutes;

        Matching(Day day) {
            this.day = day;
        }

        void search() {
            mostWorth = NONE;
            tryFrom(0, 0, 0);
        }

        /** Rows come in their order, so that of several the first is kept. */
        private void tryFrom(int mender, int worth, int minutes) {
            if (mender >= day.hall.menders || mender >= MOST_MENDERS) {
                keepIfBetter(worth, minutes);
                return;
            }
            tried[mender] = NONE;
            tryFrom(mender + 1, worth, minutes);
            if (!day.isFree(mender)) {
                return;
            }
            for (int thing = 0; thing < day.hall.things; thing++) {
                if (day.canTake(mender, thing)) {
                    tried[mender] = thing;
                    day.begin(mender, thing);
                    tryFrom(mender + 1, worth + day.hall.worth[thing],
                            minutes + day.effort(mender, thing));
                    day.layDown(mender);
                    day.row[Day.PARTS + day.hall.sortOf[thing]] += day.hall.needs[thing];
                }
            }
        }

        private void keepIfBetter(int worth, int minutes) {
            if (worth > mostWorth || worth == mostWorth && minutes < fewestMinutes) {
                mostWorth = worth;
                fewestMinutes = minutes;
                System.arraycopy(tried, 0, best, 0, MOST_MENDERS);
            }
        }
    }
}
