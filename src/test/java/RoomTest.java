import com.sun.management.ThreadMXBean;
import java.lang.management.ManagementFactory;
import java.lang.reflect.InvocationTargetException;
import java.lang.reflect.Method;
import java.util.ArrayList;
import java.util.List;

/** What the dearest runs make, and that every call ends and throws nothing, whatever it is given. */
public final class RoomTest {
    private static final Due due = new Due();
    private static final String WIDE = "cave drops 4;pair gap 9;pair gap 9;pair gap 9;pair gap 9;lead 1 1 1 1;dry 5;";
    private static final String[] CAVES = {
        WIDE,
        WIDE + "grows: if drops=4 then 1 else if drops=0 then 0-dry else 0 end end;",
        WIDE + "grows: if gap=9 then 9-chalk else 0-drops end;falls: gaps=3 and widest=1;",
        WIDE + "grows: if met=3 then drops else if pair=0 then 0-1 else drops-dry end end;falls: widest=0;",
        "cave drops 4;pair gap 9 chalk 7;pair gap 8;pair gap 7;pair gap 5;"
            + "grows: if gap=1 then 0-(8-pair) else 1 end;falls: gaps=36;",
        "cave drops 4;",
        "cave drops 1;pair gap 1;falls: 1=1;",
    };
    private static final int[] ODD = {Integer.MIN_VALUE, -1, 0, 1, 3, 4, 8, 10, 41, 625, 99999, Integer.MAX_VALUE};

    public static void main(String[] args) throws ReflectiveOperationException {
        for (String cave : CAVES) {
            room(cave);
            anyArguments(cave, false);
            anyArguments(cave, true);
        }
        manyCaves();
        due.end("RoomTest");
    }

    private static long made() {
        ThreadMXBean bean = (ThreadMXBean) ManagementFactory.getThreadMXBean();
        return bean.getCurrentThreadAllocatedBytes();
    }

    /** The dearest calls, again and again on one object: rows are made once. */
    private static void room(String cave) {
        // Once ahead of the count, so that what the machine itself makes at first isn't counted.
        dearestCalls(cave);
        long before = made();
        dearestCalls(cave);
        long bytes = made() - before;
        due.is("more than 800,000 bytes made: " + bytes + " in " + cave, bytes > 800000 ? 1 : 0, 0);
    }

    private static void dearestCalls(String cave) {
        StoneMeet x = Due.caveOf(cave);
        Due.fill(x, 0, -1, -1, -1, -1, -1, -1, -1, -1, -1, -1);
        Due.fill(x, 1, 0, 1, 0, 1, 119, 0);
        for (int i = 0; i < 20; i++) {
            int p = i % 4;
            x.soonest(15);
            x.way(15, i);
            x.rows(15, 8);
            x.most();
            x.holding();
            x.felling();
            x.stands();
            x.seen(0, p);
            x.chalks(0, p);
            x.attempt(0, p);
            x.forces(p);
            x.best(p);
            x.chance(p, 8, 0);
            x.mean(p, 8, 0);
            x.fallen(8, 0);
            x.lies(p, 99999);
            x.order(p);
            x.moved(p, 0, 1);
            x.judge(1, 0);
            x.age(i, 40);
            x.undo(1);
            x.image(0);
            x.restore(0);
            x.year(0);
        }
    }

    /** Objects that never search keep little, and texts leave little behind. */
    private static void manyCaves() {
        StringBuilder text = new StringBuilder("cave drops 1;grows:1");
        while (text.length() < 880) {
            text.append("+1");
        }
        text.append(';');
        Due.caveOf(text.toString()).year(0);
        long before = made();
        for (int i = 0; i < 100; i++) {
            StoneMeet x = Due.caveOf(text.toString());
            for (int k = 0; k < 9; k++) {
                Due.tell(x, text.toString());
            }
            x.year(0);
        }
        long bytes = made() - before;
        due.is("more than 8,000,000 bytes made: " + bytes, bytes > 8000000 ? 1 : 0, 0);
    }

    private static void anyArguments(String cave, boolean later) throws ReflectiveOperationException {
        List<Method> calls = new ArrayList<>();
        for (Method m : StoneMeet.class.getDeclaredMethods()) {
            if (java.lang.reflect.Modifier.isPublic(m.getModifiers())) {
                calls.add(m);
            }
        }
        for (Method m : calls) {
            if (m.getName().equals("feed")) {
                continue;
            }
            StoneMeet x = Due.caveOf(cave);
            Due.fill(x, 3, 1, 0, 1, 0);
            Due.fill(x, 1, 9, -1, -1);
            if (later) {
                x.perform(3);
            }
            int types = m.getParameterCount();
            for (int i = 0; i < Math.pow(ODD.length, types); i++) {
                Object[] given = new Object[types];
                int rest = i;
                for (int k = 0; k < types; k++) {
                    int value = ODD[rest % ODD.length];
                    rest /= ODD.length;
                    given[k] = m.getParameterTypes()[k] == long.class ? (Object) (long) value : (Object) value;
                }
                call(m, x, given);
            }
        }
    }

    private static void call(Method m, StoneMeet x, Object[] given) throws ReflectiveOperationException {
        try {
            long answer = ((Number) m.invoke(x, given)).longValue();
            due.is(m.getName() + " answers", answer >= -99000005 || m.getName().equals("write") ? 1 : 0, 1);
        } catch (InvocationTargetException e) {
            due.is(m.getName() + " threw " + e.getCause(), 1, 0);
        }
    }
}
