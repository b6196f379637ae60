import java.util.ArrayDeque;
import java.util.ArrayList;
import java.util.Deque;
import java.util.HashMap;
import java.util.List;
import java.util.Map;

/**
 * The document once more, written another way and as plainly as possible: objects that are copied
 * whole, RULES as trees of functions, every MINUTE gone through. ModelTest compares it with MendHall.
 */
final class Model {
    static final int NONE = -1;

    static final class Sort implements Cloneable {
        int look;
        int toldParts;
        int parts;
    }

    static final class Mender {
        Map<Integer, Integer> skills = new HashMap<>();
        Thing mends;
        int toGo;
        int coffee;
        int idle;
    }

    static final class Thing {
        int number;
        int sort;
        int come;
        int worth;
        int needs;
        int how;
        int when = NONE;
    }

    /** A HALL and how it is there. */
    static final class World {
        int end;
        int wait;
        int minute;
        List<Sort> sorts = new ArrayList<>();
        List<Mender> menders = new ArrayList<>();
        List<Thing> things = new ArrayList<>();

        World copy() {
            World w = new World();
            w.end = end;
            w.wait = wait;
            w.minute = minute;
            for (Sort s : sorts) {
                Sort t = new Sort();
                t.look = s.look;
                t.toldParts = s.toldParts;
                t.parts = s.parts;
                w.sorts.add(t);
            }
            for (Thing s : things) {
                Thing t = new Thing();
                t.number = s.number;
                t.sort = s.sort;
                t.come = s.come;
                t.worth = s.worth;
                t.needs = s.needs;
                t.how = s.how;
                t.when = s.when;
                w.things.add(t);
            }
            for (Mender s : menders) {
                Mender t = new Mender();
                t.skills.putAll(s.skills);
                t.mends = s.mends == null ? null : w.things.get(s.mends.number);
                t.toGo = s.toGo;
                t.coffee = s.coffee;
                t.idle = s.idle;
                w.menders.add(t);
            }
            return w;
        }

        World fromBegin() {
            World w = copy();
            w.minute = 0;
            for (Sort s : w.sorts) {
                s.parts = s.toldParts;
            }
            for (Mender m : w.menders) {
                m.mends = null;
                m.toGo = 0;
                m.coffee = 0;
                m.idle = 0;
            }
            for (Thing t : w.things) {
                t.how = 0;
                t.when = NONE;
            }
            return w;
        }

        boolean can(Mender m, Thing t) {
            return t.how == 1 && m.skills.containsKey(t.sort)
                    && (t.needs == 0 || sorts.get(t.sort).parts >= 1);
        }

        int effort(Mender m, Thing t) {
            return m.skills.get(t.sort) + sorts.get(t.sort).look;
        }

        void take(Mender m, Thing t) {
            if (t.needs == 1) {
                sorts.get(t.sort).parts--;
            }
            t.how = 2;
            m.mends = t;
            m.toGo = effort(m, t);
        }

        int minute(List<Clause> rule) {
            for (Thing t : things) {
                if (t.how == 0 && t.come == minute) {
                    t.how = 1;
                }
            }
            for (Thing t : things) {
                if (t.how == 1 && (minute >= t.come + wait || minute >= end)) {
                    t.how = 4;
                }
            }
            if (minute < end) {
                for (Mender m : menders) {
                    if (m.mends == null && m.coffee == 0) {
                        Thing t = chosen(m, rule);
                        if (t != null) {
                            take(m, t);
                        }
                    }
                }
            }
            int bits = 0;
            for (Mender m : menders) {
                if (m.mends != null) {
                    m.toGo--;
                    if (m.toGo == 0) {
                        m.mends.how = 3;
                        m.mends.when = minute;
                        bits += 1 << m.mends.number;
                        m.mends = null;
                    }
                } else if (minute < end) {
                    m.idle++;
                }
            }
            for (Mender m : menders) {
                m.coffee = Math.max(0, m.coffee - 1);
            }
            minute++;
            return bits;
        }

        Thing chosen(Mender m, List<Clause> rule) {
            Thing best = null;
            long bestSum = 0;
            for (Thing t : things) {
                if (!can(m, t)) {
                    continue;
                }
                if (rule == null) {
                    if (best == null || t.come < best.come) {
                        best = t;
                    }
                    continue;
                }
                long sum = 0;
                for (Clause c : rule) {
                    if (c.test == null || c.test.of(this, m, t)) {
                        sum = c.sum.of(this, m, t);
                        break;
                    }
                }
                if (sum > 0 && (best == null || sum > bestSum)) {
                    best = t;
                    bestSum = sum;
                }
            }
            return best;
        }

        World after(int n, List<Clause> rule) {
            World w = copy();
            for (int i = 0; i < n; i++) {
                w.minute(rule);
            }
            return w;
        }

        int saved() {
            int sum = 0;
            for (Thing t : things) {
                sum += t.how == 3 ? t.worth : 0;
            }
            return sum;
        }
    }

    interface Num {
        long of(World w, Mender m, Thing t);
    }

    interface Bool {
        boolean of(World w, Mender m, Thing t);
    }

    static final class Clause {
        Num sum;
        Bool test;
    }

    static final class Fault extends RuntimeException {
        private static final long serialVersionUID = 1L;
        final int number;

        Fault(int place, int why) {
            super(null, null, false, false);
            number = 1 + 8 * place + why;
        }
    }

    /** Reads straight from the bytes, without tokens. */
    static final class Parser {
        final String text;
        int at;
        int counted;
        World world = new World();

        Parser(String text) {
            this.text = text;
        }

        int peek() {
            while (at < text.length() && text.charAt(at) == ' ') {
                at++;
            }
            return at < text.length() ? text.charAt(at) : -1;
        }

        /** The letters from here on; stays in front of them. */
        String word() {
            peek();
            int to = at;
            while (to < text.length() && text.charAt(to) >= 'a' && text.charAt(to) <= 'z') {
                to++;
            }
            return text.substring(at, to);
        }

        String digits() {
            peek();
            int to = at;
            while (to < text.length() && text.charAt(to) >= '0' && text.charAt(to) <= '9') {
                to++;
            }
            return text.substring(at, to);
        }

        int number(int least, int most) {
            String d = digits();
            if (d.isEmpty()) {
                throw new Fault(at, 0);
            }
            if (d.length() > 5 || Integer.parseInt(d) < least || Integer.parseInt(d) > most) {
                throw new Fault(at, 1);
            }
            at += d.length();
            return Integer.parseInt(d);
        }

        World hall() {
            int clauses = 0;
            while (true) {
                String word = word();
                if (!List.of("hall", "sort", "mender", "skill", "thing").contains(word)) {
                    throw new Fault(at, 0);
                }
                clauses++;
                if (clauses > 40 || word.equals("hall") && clauses > 1
                        || !word.equals("hall") && clauses == 1
                        || word.equals("sort") && world.sorts.size() == 4
                        || word.equals("mender") && world.menders.size() == 4
                        || word.equals("thing") && world.things.size() == 7) {
                    throw new Fault(at, 4);
                }
                at += word.length();
                hallClause(word);
                int c = peek();
                if (c == -1) {
                    return world;
                }
                if (c != ';') {
                    throw new Fault(at, 0);
                }
                at++;
            }
        }

        void hallClause(String word) {
            if (word.equals("hall")) {
                world.end = number(1, 300);
                world.wait = number(1, 300);
            } else if (word.equals("sort")) {
                Sort s = new Sort();
                s.look = number(0, 9);
                s.toldParts = number(0, 9);
                s.parts = s.toldParts;
                world.sorts.add(s);
            } else if (word.equals("mender")) {
                world.menders.add(new Mender());
            } else if (word.equals("skill")) {
                int m = number(0, world.menders.size() - 1);
                int s = number(0, world.sorts.size() - 1);
                world.menders.get(m).skills.put(s, number(1, 60));
            } else {
                Thing t = new Thing();
                t.number = world.things.size();
                t.sort = number(0, world.sorts.size() - 1);
                t.come = number(0, 299);
                t.worth = number(1, 30);
                t.needs = number(0, 1);
                world.things.add(t);
            }
        }

        List<Clause> rule() {
            List<Clause> clauses = new ArrayList<>();
            while (true) {
                if (!word().equals("take")) {
                    throw new Fault(at, 0);
                }
                if (clauses.size() == 12) {
                    throw new Fault(at, 4);
                }
                at += 4;
                Clause c = new Clause();
                c.sum = sum();
                if (word().equals("if")) {
                    at += 2;
                    c.test = test(0);
                }
                clauses.add(c);
                int b = peek();
                if (b == -1) {
                    return clauses;
                }
                if (b != ';') {
                    throw new Fault(at, 0);
                }
                at++;
            }
        }

        Bool test(int depth) {
            Bool left = part(depth);
            while (word().equals("or")) {
                at += 2;
                Bool a = left;
                Bool b = part(depth);
                left = (w, m, t) -> a.of(w, m, t) || b.of(w, m, t);
            }
            return left;
        }

        Bool part(int depth) {
            Bool left = fact(depth);
            while (word().equals("and")) {
                at += 3;
                Bool a = left;
                Bool b = fact(depth);
                left = (w, m, t) -> a.of(w, m, t) && b.of(w, m, t);
            }
            return left;
        }

        Bool fact(int depth) {
            boolean isNot = word().equals("not");
            if (isNot || peek() == '[') {
                if (depth == 10) {
                    throw new Fault(at, 2);
                }
                at += isNot ? 3 : 1;
                if (isNot) {
                    Bool a = fact(depth + 1);
                    return (w, m, t) -> !a.of(w, m, t);
                }
                Bool a = test(depth + 1);
                if (peek() != ']') {
                    throw new Fault(at, 0);
                }
                at++;
                return a;
            }
            Num a = sum();
            int c = peek();
            if (c != '<' && c != '=' && c != '>') {
                throw new Fault(at, 0);
            }
            if (counted++ == 60) {
                throw new Fault(at, 3);
            }
            at++;
            boolean same = c != '=' && at < text.length() && text.charAt(at) == '=';
            at += same ? 1 : 0;
            Num b = sum();
            return (w, m, t) -> {
                long x = a.of(w, m, t);
                long y = b.of(w, m, t);
                return c == '=' ? x == y : same && x == y || (c == '<' ? x < y : x > y);
            };
        }

        Num sum() {
            Num left = term();
            while (peek() == '+' || peek() == '-') {
                boolean plus = peek() == '+';
                at++;
                Num a = left;
                Num b = term();
                left = plus ? (w, m, t) -> a.of(w, m, t) + b.of(w, m, t)
                        : (w, m, t) -> a.of(w, m, t) - b.of(w, m, t);
            }
            return left;
        }

        Num term() {
            Num left = value();
            while (peek() == '*' || peek() == '/' || peek() == '%') {
                int c = peek();
                at++;
                Num a = left;
                Num b = value();
                left = (w, m, t) -> {
                    long x = a.of(w, m, t);
                    long y = b.of(w, m, t);
                    return c == '*' ? x * y : y == 0 ? 0 : c == '/' ? x / y : x % y;
                };
            }
            return left;
        }

        Num value() {
            String d = digits();
            String name = word();
            Num value;
            if (!d.isEmpty()) {
                if (d.length() > 5) {
                    throw new Fault(at, 1);
                }
                long number = Long.parseLong(d);
                value = (w, m, t) -> number;
            } else {
                value = named(name);
            }
            if (counted++ == 60) {
                throw new Fault(at, 3);
            }
            at += d.length() + (d.isEmpty() ? name.length() : 0);
            return value;
        }

        Num named(String name) {
            switch (name) {
                case "mender":
                    return (w, m, t) -> w.menders.indexOf(m);
                case "thing":
                    return (w, m, t) -> t.number;
                case "sort":
                    return (w, m, t) -> t.sort;
                case "worth":
                    return (w, m, t) -> t.worth;
                case "waited":
                    return (w, m, t) -> w.minute - t.come;
                case "minutes":
                    return (w, m, t) -> w.effort(m, t);
                case "needs":
                    return (w, m, t) -> t.needs;
                case "parts":
                    return (w, m, t) -> w.sorts.get(t.sort).parts;
                case "queue":
                    return (w, m, t) -> w.things.stream().filter(o -> o.how == 1).count();
                case "left":
                    return (w, m, t) -> w.end - w.minute;
                case "free":
                    return (w, m, t) -> w.menders.stream().filter(o -> o.mends == null).count();
                case "skills":
                    return (w, m, t) -> m.skills.size();
                default:
                    throw new Fault(at, 0);
            }
        }
    }

    /** All that an IMAGE keeps. */
    static final class All {
        World world;
        int force = NONE;
        int x;
        List<int[]> books = new ArrayList<>();
        Deque<World> undo = new ArrayDeque<>();

        All copy() {
            All a = new All();
            a.world = world == null ? null : world.copy();
            a.force = force;
            a.x = x;
            a.books.addAll(books);
            for (World w : undo) {
                a.undo.addLast(w.copy());
            }
            return a;
        }
    }

    private final StringBuilder tape = new StringBuilder();
    private final List<List<Clause>> rules = new ArrayList<>();
    private final All[] images = new All[4];
    private All all = new All();

    private List<Clause> ruleOf(int k) {
        return k == NONE ? null : rules.get(k);
    }

    private List<Clause> inForce() {
        return ruleOf(all.force);
    }

    private Thing t(int thing) {
        return all.world == null || thing < 0 || thing >= all.world.things.size()
                ? null : all.world.things.get(thing);
    }

    private Mender m(int mender) {
        return all.world == null || mender < 0 || mender >= all.world.menders.size()
                ? null : all.world.menders.get(mender);
    }

    private Sort s(int sort) {
        return all.world == null || sort < 0 || sort >= all.world.sorts.size()
                ? null : all.world.sorts.get(sort);
    }

    private void keep() {
        all.undo.addLast(all.world.copy());
        if (all.undo.size() > 20) {
            all.undo.removeFirst();
        }
    }

    int feed(int a, int b, int c, int d, int e) {
        if (tape.length() > 380) {
            return NONE;
        }
        for (int n : new int[] {a, b, c, d, e}) {
            tape.append((char) (n >>> 24)).append((char) (n >>> 16 & 255))
                    .append((char) (n >>> 8 & 255)).append((char) (n & 255));
        }
        return tape.length();
    }

    int end(int n) {
        if (n < 0 || n > tape.length()) {
            return NONE;
        }
        tape.setLength(n);
        return n;
    }

    int hall() {
        String text = tape.toString();
        tape.setLength(0);
        try {
            all.world = new Parser(text).hall();
        } catch (Fault f) {
            return -2 - f.number;
        }
        all.books.clear();
        all.undo.clear();
        return all.world.things.size();
    }

    int rule() {
        if (rules.size() == 6) {
            return NONE;
        }
        String text = tape.toString();
        tape.setLength(0);
        try {
            rules.add(new Parser(text).rule());
        } catch (Fault f) {
            return -2 - f.number;
        }
        return rules.size() - 1;
    }

    int force(int rule) {
        if (rule < NONE || rule >= rules.size()) {
            return -2;
        }
        int was = all.force;
        all.force = rule;
        return was;
    }

    int thing(int thing, int what) {
        Thing t = t(thing);
        if (t == null || what < 0 || what > 5) {
            return -2;
        }
        return new int[] {t.sort, t.come, t.worth, t.needs, t.how, t.when}[what];
    }

    int mender(int mender, int what) {
        Mender m = m(mender);
        if (m == null || what < 0 || what > 7) {
            return -2;
        }
        if (what >= 4) {
            return m.skills.getOrDefault(what - 4, NONE);
        }
        return new int[] {m.mends == null ? NONE : m.mends.number,
            m.mends == null ? 0 : m.toGo, m.coffee, m.idle}[what];
    }

    int sort(int sort, int what) {
        Sort s = s(sort);
        return s == null || what < 0 || what > 1 ? NONE : what == 0 ? s.look : s.parts;
    }

    int minute() {
        if (all.world == null || all.world.minute == 999) {
            return NONE;
        }
        keep();
        return all.world.minute(inForce());
    }

    int give(int mender, int thing) {
        Mender m = m(mender);
        Thing t = t(thing);
        if (m == null || t == null || m.mends != null || !all.world.can(m, t)) {
            return NONE;
        }
        keep();
        all.world.take(m, t);
        return m.toGo;
    }

    int putDown(int mender) {
        Mender m = m(mender);
        if (m == null || m.mends == null) {
            return NONE;
        }
        keep();
        Thing t = m.mends;
        t.how = 1;
        m.mends = null;
        m.toGo = 0;
        return t.number;
    }

    int bring(int sort) {
        Sort s = s(sort);
        if (s == null || s.parts == 99) {
            return NONE;
        }
        keep();
        return ++s.parts;
    }

    int coffee(int mender, int minutes) {
        Mender m = m(mender);
        if (m == null || m.mends != null || m.coffee > 0 || minutes < 1 || minutes > 60) {
            return NONE;
        }
        keep();
        m.coffee = minutes;
        return (int) all.world.menders.stream().filter(o -> o.coffee > 0).count();
    }

    int undo() {
        if (all.undo.isEmpty()) {
            return -2;
        }
        all.world = all.undo.removeLast();
        return all.undo.size();
    }

    int ahead(int number, int n, int what) {
        if (all.world == null || n < 0 || n > 400 || what < 0 || what > 2
                || what == 0 && t(number) == null || what == 1 && m(number) == null) {
            return -2;
        }
        World w = all.world.after(n, inForce());
        if (what == 0) {
            return w.things.get(number).how;
        }
        if (what == 1) {
            Thing t = w.menders.get(number).mends;
            return t == null ? NONE : t.number;
        }
        return w.saved();
    }

    int done(int thing) {
        if (t(thing) == null) {
            return NONE;
        }
        Thing t = all.world.after(400, inForce()).things.get(thing);
        return t.how == 3 ? t.when : -2;
    }

    int waits(int thing) {
        if (t(thing) == null || t(thing).how > 1) {
            return NONE;
        }
        World w = all.world.copy();
        for (int i = 0; i < 400; i++) {
            int minute = w.minute;
            w.minute(inForce());
            if (w.things.get(thing).how > 1) {
                return minute - w.things.get(thing).come;
            }
        }
        return -2;
    }

    int take(int mender, int what) {
        if (m(mender) == null || m(mender).mends != null || what < 0 || what > 1) {
            return -2;
        }
        int best = NONE;
        int most = all.world.after(400, inForce()).saved();
        for (Thing t : all.world.things) {
            if (all.world.can(m(mender), t)) {
                World w = all.world.copy();
                w.take(w.menders.get(mender), w.things.get(t.number));
                int saved = w.after(400, inForce()).saved();
                if (saved > most) {
                    most = saved;
                    best = t.number;
                }
            }
        }
        return what == 0 ? best : most;
    }

    /** Every row of four from none to THING 6, as a number of base 8 with MENDER 0 in front. */
    int match(int what) {
        if (all.world == null || what < 0 || what > 5) {
            return -3;
        }
        if (what >= 2 && (m(what - 2) == null || m(what - 2).mends != null)) {
            return -2;
        }
        int[] best = null;
        for (int code = 0; code < 4096; code++) {
            int[] row = {(code >> 9 & 7) - 1, (code >> 6 & 7) - 1, (code >> 3 & 7) - 1,
                (code & 7) - 1};
            int[] found = matched(row);
            if (found != null && (best == null || found[0] > best[0]
                    || found[0] == best[0] && found[1] < best[1])) {
                best = found;
            }
        }
        return best[what];
    }

    private int[] matched(int[] row) {
        World w = all.world.copy();
        int[] found = {0, 0, row[0], row[1], row[2], row[3]};
        for (int i = 0; i < 4; i++) {
            if (row[i] == NONE) {
                continue;
            }
            if (i >= w.menders.size() || row[i] >= w.things.size()) {
                return null;
            }
            Mender m = w.menders.get(i);
            Thing t = w.things.get(row[i]);
            if (m.mends != null || !w.can(m, t)) {
                return null;
            }
            w.take(m, t);
            found[0] += t.worth;
            found[1] += m.toGo;
        }
        return found;
    }

    int swap(int what) {
        if (all.world == null || what < 0 || what > 2) {
            return NONE;
        }
        int[] best = {0, -2, -2};
        List<Mender> ms = all.world.menders;
        for (int i = 0; i < ms.size(); i++) {
            for (int k = i + 1; k < ms.size(); k++) {
                Mender a = ms.get(i);
                Mender b = ms.get(k);
                if (a.mends != null && b.mends != null && a.skills.containsKey(b.mends.sort)
                        && b.skills.containsKey(a.mends.sort)) {
                    int less = a.toGo + b.toGo - all.world.effort(a, b.mends)
                            - all.world.effort(b, a.mends);
                    if (less > best[0]) {
                        best = new int[] {less, i, k};
                    }
                }
            }
        }
        return best[0] == 0 ? -2 : best[what];
    }

    int part(int what) {
        if (all.world == null || what < 0 || what > 1) {
            return -2;
        }
        int best = NONE;
        int most = all.world.after(400, inForce()).saved();
        for (int i = 0; i < all.world.sorts.size(); i++) {
            World w = all.world.copy();
            w.sorts.get(i).parts++;
            int saved = w.after(400, inForce()).saved();
            if (saved > most) {
                most = saved;
                best = i;
            }
        }
        return what == 0 ? best : most;
    }

    int askIn(int what) {
        if (all.world == null || what < 0 || what > 1) {
            return -2;
        }
        int best = NONE;
        int most = all.world.after(400, inForce()).saved();
        for (int i = 0; i < all.world.sorts.size() && all.world.menders.size() < 4; i++) {
            World w = all.world.copy();
            Mender guest = new Mender();
            guest.skills.put(i, 10);
            w.menders.add(guest);
            int saved = w.after(400, inForce()).saved();
            if (saved > most) {
                most = saved;
                best = i;
            }
        }
        return what == 0 ? best : most;
    }

    int late(int sort) {
        if (s(sort) == null) {
            return NONE;
        }
        int last = -2;
        for (int come = all.world.minute; come <= all.world.end && all.world.things.size() < 7;
                come++) {
            World w = all.world.copy();
            Thing t = new Thing();
            t.number = w.things.size();
            t.sort = sort;
            t.come = come;
            t.worth = 1;
            w.things.add(t);
            if (w.after(400, inForce()).things.get(t.number).how == 3) {
                last = come;
            }
        }
        return last;
    }

    int idle(int mender) {
        return m(mender) == null ? NONE : all.world.after(400, inForce()).menders.get(mender).idle;
    }

    int book(int n, int thing, int how) {
        if (n == NONE) {
            all.books.clear();
            return 0;
        }
        if (n < 0 || n > 399 || t(thing) == null || how < 0 || how > 4 || all.books.size() == 10) {
            return -2;
        }
        all.books.add(new int[] {n, thing, how});
        return all.books.size();
    }

    private List<Integer> fitting() {
        List<Integer> found = new ArrayList<>();
        for (int k = NONE; k < rules.size(); k++) {
            boolean fits = true;
            for (int[] b : all.books) {
                World w = all.world.fromBegin().after(b[0] + 1, ruleOf(k));
                fits &= w.things.get(b[1]).how == b[2];
            }
            if (fits) {
                found.add(k);
            }
        }
        return found;
    }

    int ruled(int what) {
        if (all.world == null || what < 0 || what > 1) {
            return -3;
        }
        List<Integer> found = fitting();
        return what == 0 ? found.size() : found.isEmpty() ? -2 : found.get(0);
    }

    int look(int n, int what) {
        if (all.world == null || n < 0 || n > 399 || what < 0 || what > 1) {
            return NONE;
        }
        List<Integer> found = fitting();
        if (found.isEmpty() || all.world.things.isEmpty()) {
            return -2;
        }
        int best = -1;
        int fewest = 99;
        for (int i = 0; i < all.world.things.size(); i++) {
            int[] counts = new int[5];
            int most = 0;
            for (int k : found) {
                int how = all.world.fromBegin().after(n + 1, ruleOf(k)).things.get(i).how;
                most = Math.max(most, ++counts[how]);
            }
            if (most < fewest) {
                fewest = most;
                best = i;
            }
        }
        return what == 0 ? best : fewest;
    }

    int seed(int x) {
        if (x < 0) {
            return NONE;
        }
        int was = all.x;
        all.x = x;
        return was;
    }

    int saturdays(int m, int p, int what) {
        if (all.world == null || m < 1 || m > 10 || p < 0 || p > 60 || what < 0 || what > 1) {
            return NONE;
        }
        long x = all.x;
        int saved = 0;
        int gone = 0;
        for (int i = 0; i < m; i++) {
            World w = all.world.fromBegin();
            for (Thing t : w.things) {
                x = (x * 1103515245L + 12345L) % 2147483648L;
                t.come += (x / 65536) % (p + 1);
            }
            w = w.after(400, inForce());
            saved += w.saved();
            gone += w.things.stream().filter(t -> t.how == 4).count();
        }
        return what == 0 ? saved : gone;
    }

    int count(int what) {
        World w = all.world == null ? new World() : all.world;
        if (what >= 8 && what <= 11) {
            return w.things.stream().filter(t -> t.how == what - 7).mapToInt(t -> 1 << t.number)
                    .sum();
        }
        switch (what) {
            case 0: return w.end;
            case 1: return w.wait;
            case 2: return w.sorts.size();
            case 3: return w.menders.size();
            case 4: return w.things.size();
            case 5: return rules.size();
            case 6: return all.force;
            case 7: return w.minute;
            case 12: return w.saved();
            case 13: return all.books.size();
            case 14: return all.undo.size();
            case 15: return all.x;
            case 16: return tape.length();
            default: return NONE;
        }
    }

    int image(int k) {
        if (k < 0 || k > 3) {
            return NONE;
        }
        images[k] = all.copy();
        return count(7);
    }

    int back(int k) {
        if (k < 0 || k > 3 || images[k] == null) {
            return NONE;
        }
        all = images[k].copy();
        return count(7);
    }
}
