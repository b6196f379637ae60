import com.sun.management.ThreadMXBean;
import java.lang.management.ManagementFactory;
import java.lang.reflect.InvocationTargetException;
import java.lang.reflect.Method;
import java.util.ArrayList;
import java.util.Comparator;
import java.util.List;
import java.util.Random;

/** No call throws or fails to end, whatever its arguments; and a run takes little room. */
public final class RoomTest {
    private static final Due DUE = new Due("RoomTest");
    private static final int[] EDGES = {Integer.MIN_VALUE, Integer.MIN_VALUE + 1, -1000, -3, -2, -1,
        0, 1, 2, 3, 4, 5, 6, 7, 8, 9, 10, 11, 16, 17, 20, 59, 60, 61, 299, 300, 399, 400, 401, 999,
        1000, 65536, Integer.MAX_VALUE - 1, Integer.MAX_VALUE};
    private static final String[] HALLS = {"hall 300 300;sort 9 9;sort 0 0;sort 1 1;sort 2 2;mender;"
            + "mender;mender;mender;skill 0 0 60;skill 1 1 1;skill 2 2 9;skill 3 3 5;skill 0 3 7;"
            + "thing 0 0 30 1;thing 1 1 1 0;thing 2 2 9 1;thing 3 299 7 1;thing 3 3 3 0;"
            + "thing 0 9 9 0;thing 1 50 5 1", "hall 20 5;sort 1 1;mender;skill 0 0 3;thing 0 0 3 1;"
            + "thing 0 2 4 0", "hall 1 1", "hall 9 9;mender;mender", "hall 9 9;sort 0 0;thing 0 0 1 0",
            "hall 300 1;sort 0 9;mender;mender;mender;mender;skill 3 0 1;thing 0 0 1 1"};
    private static final String[] RULES = {"take worth", "take 0", "take 1/0+1%0", "take worth*worth"
            + "*worth*99999*99999*99999*99999/minutes%left if not [waited>3 or queue=free] and "
            + "skills>=1;take parts-needs", "take 1 if not not not not not not not not not not 1=2"};

    public static void main(String[] args) {
        List<Method> calls = new ArrayList<>();
        for (Method m : MendHall.class.getDeclaredMethods()) {
            if (java.lang.reflect.Modifier.isPublic(m.getModifiers())) {
                calls.add(m);
            }
        }
        calls.sort(Comparator.comparing(Method::getName));
        for (int seed = 0; seed < 400; seed++) {
            anyCalls(calls, new Random(seed), seed);
        }
        anyBytes();
        room();
        dearest();
        DUE.finish();
    }

    private static int drawn(Random random) {
        return random.nextInt(3) > 0 ? random.nextInt(8) : EDGES[random.nextInt(EDGES.length)];
    }

    private static void anyCalls(List<Method> calls, Random random, int seed) {
        MendHall x = new MendHall();
        for (int n = 0; n < 300; n++) {
            int kind = random.nextInt(40);
            if (kind == 0) {
                x.end(0);
                Due.hall(x, HALLS[random.nextInt(HALLS.length)]);
            } else if (kind == 1) {
                x.end(0);
                Due.rule(x, RULES[random.nextInt(RULES.length)]);
            } else if (kind < 8) {
                x.minute();
            } else {
                Method call = calls.get(random.nextInt(calls.size()));
                Object[] arguments = new Object[call.getParameterCount()];
                for (int i = 0; i < arguments.length; i++) {
                    arguments[i] = drawn(random);
                }
                DUE.holds("no exception of " + call.getName() + ", seed " + seed,
                        answers(call, x, arguments));
            }
        }
    }

    private static boolean answers(Method call, MendHall x, Object[] arguments) {
        try {
            call.invoke(x, arguments);
            return true;
        } catch (InvocationTargetException thrown) {
            thrown.getCause().printStackTrace(System.out);
            return false;
        } catch (IllegalAccessException wrong) {
            return false;
        }
    }

    private static void anyBytes() {
        Random random = new Random(1);
        for (int n = 0; n < 20000; n++) {
            MendHall x = new MendHall();
            int feeds = random.nextInt(21);
            for (int i = 0; i < feeds; i++) {
                x.feed(random.nextInt(), random.nextInt(), random.nextInt(), random.nextInt(),
                        random.nextInt());
            }
            int answer = random.nextBoolean() ? x.hall() : x.rule();
            DUE.holds("bytes at random have a FAULT", answer < -2);
        }
    }

    /** All calls of a run live in one room: what is made is made once. */
    private static void room() {
        ThreadMXBean room = (ThreadMXBean) ManagementFactory.getThreadMXBean();
        long id = Thread.currentThread().getId();
        int sum = everything(run());
        MendHall x = run();
        long before = room.getThreadAllocatedBytes(id);
        MendHall made = new MendHall();
        long behind = room.getThreadAllocatedBytes(id);
        DUE.holds("a new object: " + (behind - before) + " bytes", behind - before < 20000);
        before = room.getThreadAllocatedBytes(id);
        sum += everything(x);
        behind = room.getThreadAllocatedBytes(id);
        DUE.holds("all that is asked: " + (behind - before) + " bytes", behind - before < 2000);
        before = room.getThreadAllocatedBytes(id);
        for (int n = 0; n < 100; n++) {
            for (int k = 0; k < 4; k++) {
                sum += x.image(k) + x.back(k);
            }
        }
        behind = room.getThreadAllocatedBytes(id);
        DUE.holds("images: " + (behind - before) + " bytes", behind - before < 40000);
        DUE.holds("it has answered " + made.count(0), sum != 0);
    }

    private static MendHall run() {
        MendHall x = Due.open(HALLS[0], RULES);
        x.force(3);
        Due.minutes(x, 2);
        x.book(7, 1, 3);
        return x;
    }

    private static int everything(MendHall x) {
        int sum = 0;
        for (int n = 0; n < 4; n++) {
            for (int what = -1; what < 8; what++) {
                sum += x.thing(n, what) + x.mender(n, what) + x.sort(n, what) + x.count(what);
                sum += x.ahead(n, 400, what) + x.take(n, what) + x.match(what) + x.swap(what);
                sum += x.part(what) + x.askIn(what) + x.ruled(what) + x.look(300, what);
                sum += x.saturdays(10, 60, what) + x.done(what) + x.waits(what);
            }
            sum += x.late(n) + x.idle(n) + x.minute() + x.give(0, n) + x.putDown(n) + x.bring(n);
            sum += x.coffee(n, 5) + x.undo() + x.seed(n) + x.force(n) + x.book(n, n, n);
        }
        return sum;
    }

    /** THINGS that wait from the begin to END for four MENDERS, by a RULE of 60 that takes none. */
    private static void dearest() {
        StringBuilder rule = new StringBuilder("take 0*worth");
        for (int i = 2; i < 60; i++) {
            rule.append("*1");
        }
        StringBuilder hall = new StringBuilder("hall 300 300;sort 0 0");
        for (int m = 0; m < 4; m++) {
            hall.append(";mender;skill ").append(m).append(" 0 1");
        }
        for (int t = 0; t < 6; t++) {
            hall.append(";thing 0 0 1 0");
        }
        MendHall x = Due.open(hall.toString(), rule.toString());
        x.force(0);
        long from = System.nanoTime();
        DUE.is("late(0)", x.late(0), -2);
        long took = (System.nanoTime() - from) / 1000000;
        DUE.holds("late(0) took " + took + " ms", took < 60000);
    }
}
