import com.sun.management.ThreadMXBean;
import java.lang.management.ManagementFactory;
import java.lang.reflect.InvocationTargetException;
import java.lang.reflect.Method;
import java.lang.reflect.Modifier;
import java.util.ArrayList;
import java.util.LinkedHashMap;
import java.util.List;
import java.util.Map;

/**
 * What a new object and the dearest call of each method make, and that every call ends and throws
 * nothing, whatever it is given.
 *
 * <p>What is made is counted in bytes: no field and no element has less than one, no object less
 * than sixteen, so that a room which has a place for each byte has one for all that was made.
 */
public final class RoomTest {
    /** A call, or some of them, on an object. */
    private interface Call {
        long on(StoneMeet x);
    }

    private static final long ROOM_OBJECTS = 600000;
    private static final long ROOM_ELEMENTS = 7300000;
    private static final int OBJECT_BYTES = 16;
    private static final int CALLS = 512;

    private static final Due due = new Due();
    private static final ThreadMXBean MACHINE = (ThreadMXBean) ManagementFactory.getThreadMXBean();
    private static final String WIDE = "cave drops 4;pair gap 9;pair gap 9;pair gap 9;pair gap 9;lead 1 1 1 1;dry 5;";
    private static final String[] CAVES = {
        WIDE,
        WIDE + "grows: if drops=4 then 1 else if drops=0 then 0-dry else 0 end end;",
        WIDE + "grows: if gap=9 then 9-chalk else 0-drops end;falls: gaps=3 and widest=1;",
        WIDE + "grows: if met=3 then drops else if pair=0 then 0-1 else drops-dry end end;falls: widest=0;",
        "cave drops 4;pair gap 9 chalk 7;pair gap 8;pair gap 7;pair gap 5;"
            + "grows: if gap=1 then 0-(8-pair) else 1 end;falls: gaps=36;",
        "cave drops 4;",
        "cave drops 1;pair gap 1;falls: 1=1;",
    };
    /** Texts that leave as much behind as a text can. */
    private static final String[] TEXTS = {
        WIDE + "grows:1" + "+1".repeat(390) + ";",
        WIDE + "falls:1=1" + "*1".repeat(390) + ";",
        WIDE + "grows:1;".repeat(98),
        WIDE + "falls:1=1;".repeat(78),
        WIDE + "grows:1;".repeat(50) + "falls:1=1;".repeat(39),
        WIDE + "grows:1" + "+1".repeat(390) + ";?",
        "cave drops 0;" + "dry 0;".repeat(140),
    };
    private static final int[] ODD = {Integer.MIN_VALUE, -1, 0, 1, 3, 4, 8, 10, 41, 625, 99999, Integer.MAX_VALUE};

    public static void main(String[] args) throws ReflectiveOperationException {
        dearest();
        for (String cave : CAVES) {
            anyArguments(cave, false);
            anyArguments(cave, true);
        }
        due.end("RoomTest");
    }

    // ---- what is made

    private static final Map<String, List<Call>> DEAR = new LinkedHashMap<>();

    private static void dear(String method, Call... calls) {
        DEAR.put(method, List.of(calls));
    }

    private static void listDear() {
        dear("feed", x -> x.feed(1, 2, 3, 4, 5));
        dear("fault", x -> x.fault(0), x -> x.fault(1), x -> x.fault(2));
        dear("pair", x -> x.pair(0, 0), x -> x.pair(3, 3), x -> x.pair(4, 0));
        dear("grown", x -> x.grown(0, 4, 0), x -> x.grown(3, 0, 1), x -> x.grown(4, 0, 0));
        dear("leadings", x -> x.leadings());
        dear("year", x -> x.year(0), x -> x.year(1), x -> x.year(2));
        dear("lead", x -> x.lead(500), x -> x.lead(4), x -> x.lead(-1));
        dear("saw", x -> x.saw(0), x -> x.saw(3), x -> x.saw(4));
        dear("chalk", x -> x.chalk(0, 9), x -> x.chalk(3, 0), x -> x.chalk(4, 0));
        dear("undo", x -> x.undo(1), x -> x.undo(10));
        dear("judge", x -> x.judge(1, 0), x -> x.judge(1, 2), x -> x.judge(2, 3), x -> x.judge(3, 0));
        dear("perform", x -> x.perform(1), x -> x.perform(2), x -> x.perform(3));
        dear("age", x -> x.age(1, 40), x -> x.age(77, 40), x -> x.age(1, 41));
        dear("lies", x -> x.lies(0, 99999), x -> x.lies(3, 1), x -> x.lies(4, 0));
        dear("meets", x -> x.meets(0), x -> x.meets(3), x -> x.meets(4));
        dear("order", x -> x.order(0), x -> x.order(4), x -> x.order(-1));
        dear("falls", x -> x.falls());
        dear("moved", x -> x.moved(0, 0, 1), x -> x.moved(3, 1, 2), x -> x.moved(4, 0, 1));
        dear("soonest", x -> x.soonest(15), x -> x.soonest(1), x -> x.soonest(0), x -> x.soonest(16));
        dear("way", x -> x.way(15, 0), x -> x.way(15, 9), x -> x.way(1, 1), x -> x.way(16, 0));
        dear("rows", x -> x.rows(15, 8), x -> x.rows(1, 8), x -> x.rows(0, 0), x -> x.rows(16, 0));
        dear("most", x -> x.most());
        dear("holding", x -> x.holding());
        dear("felling", x -> x.felling());
        dear("stands", x -> x.stands());
        dear("seen", x -> x.seen(0, 0), x -> x.seen(0, 3), x -> x.seen(2, 0), x -> x.seen(3, 0));
        dear("seenDry", x -> x.seenDry(0, 0, 0), x -> x.seenDry(0, 3, 9), x -> x.seenDry(3, 0, 0));
        dear("surely", x -> x.surely(0, 0, 0), x -> x.surely(0, 3, 1), x -> x.surely(3, 0, 0));
        dear("chalks", x -> x.chalks(0, 0), x -> x.chalks(0, 3), x -> x.chalks(3, 0));
        dear("attempt", x -> x.attempt(0, 0), x -> x.attempt(0, 3), x -> x.attempt(3, 0));
        dear("forces", x -> x.forces(0), x -> x.forces(3), x -> x.forces(4));
        dear("best", x -> x.best(0), x -> x.best(3), x -> x.best(4));
        dear("chance", x -> x.chance(0, 8, 0), x -> x.chance(3, 8, 1), x -> x.chance(4, 0, 0));
        dear("mean", x -> x.mean(0, 8, 0), x -> x.mean(3, 8, 1), x -> x.mean(4, 0, 0));
        dear("fallen", x -> x.fallen(8, 0), x -> x.fallen(8, 1), x -> x.fallen(9, 0));
        dear("numbers", x -> x.numbers(0, 3, 40), x -> x.numbers(3, 0, 0), x -> x.numbers(4, 0, 0));
        dear("write", x -> x.write(2, 39, -1), x -> x.write(2, 40, 0), x -> x.write(3, 0, 0));
        dear("lists", x -> x.lists(2, 0), x -> x.lists(2, 3), x -> x.lists(3, 0));
        dear("image", x -> x.image(0), x -> x.image(1), x -> x.image(2));
        dear("restore", x -> x.restore(0), x -> x.restore(1), x -> x.restore(2));
        dear("count", x -> x.count(0), x -> x.count(9), x -> x.count(10));
    }

    /**
     * All that a run can make: a new object and 512 times the dearest call, of any method, has to
     * have room.
     */
    private static void dearest() {
        listDear();
        long object = bytesOf(x -> x.count(0) + new StoneMeet().count(0), new StoneMeet());
        due.is("what a new object makes is counted", object > 1000 ? 1 : 0, 1);
        for (Method m : StoneMeet.class.getDeclaredMethods()) {
            if (Modifier.isPublic(m.getModifiers())) {
                long bytes = m.getName().equals("cave") ? dearestText() : dearestOf(m.getName());
                long all = object + CALLS * bytes;
                boolean fits = all <= ROOM_ELEMENTS && all / OBJECT_BYTES <= ROOM_OBJECTS;
                due.is(m.getName() + " makes " + bytes + " bytes: too much for " + CALLS + " calls", fits ? 0 : 1, 0);
            }
        }
    }

    private static long bytesOf(Call call, StoneMeet x) {
        long before = MACHINE.getCurrentThreadAllocatedBytes();
        call.on(x);
        return MACHINE.getCurrentThreadAllocatedBytes() - before;
    }

    /** Each call as the first one of its object that could make rows, and as a later one. */
    private static long dearestOf(String method) {
        List<Call> calls = DEAR.get(method);
        due.is("calls of " + method + " to be counted", calls == null ? 0 : 1, 1);
        long most = 0;
        for (String cave : CAVES) {
            for (Call call : calls == null ? List.<Call>of() : calls) {
                // Once ahead of the count, so that what the machine itself makes at first isn't counted.
                call.on(prepared(cave));
                StoneMeet fresh = prepared(cave);
                most = Math.max(most, bytesOf(call, fresh));
                most = Math.max(most, bytesOf(call, fresh));
                StoneMeet older = prepared(cave);
                older.perform(1);
                older.image(0);
                most = Math.max(most, bytesOf(call, older));
                older.restore(0);
                most = Math.max(most, bytesOf(call, older));
            }
        }
        return most;
    }

    /** No call here asks a law or searches: the first that does is the one that is counted. */
    private static StoneMeet prepared(String cave) {
        StoneMeet x = Due.caveOf(cave);
        Due.fill(x, 0, -1, -1, -1, -1, -1, -1, -1, -1, -1, -1);
        Due.fill(x, 1, 0, 1, 0, 109, 119, 0, 1020, 0);
        x.numbers(2, 3, 40);
        x.image(1);
        return x;
    }

    private static long dearestText() {
        long most = 0;
        for (String text : TEXTS) {
            due.is("bytes of a dear text", text.length() <= 900 ? 1 : 0, 1);
            Call call = x -> x.cave(text.length());
            StoneMeet x = new StoneMeet();
            for (int i = 0; i < 3; i++) {
                Due.tape(x, text);
                most = Math.max(most, bytesOf(call, x));
                x.year(0);
            }
        }
        return most;
    }

    // ---- whatever it is given

    private static void anyArguments(String cave, boolean later) throws ReflectiveOperationException {
        List<Method> calls = new ArrayList<>();
        for (Method m : StoneMeet.class.getDeclaredMethods()) {
            if (Modifier.isPublic(m.getModifiers())) {
                calls.add(m);
            }
        }
        for (Method m : calls) {
            if (m.getName().equals("feed")) {
                continue;
            }
            StoneMeet x = Due.caveOf(cave);
            Due.fill(x, 3, 1, 0, 1, 0);
            Due.fill(x, 1, 9, -1, -1);
            if (later) {
                x.perform(3);
            }
            int types = m.getParameterCount();
            for (int i = 0; i < Math.pow(ODD.length, types); i++) {
                Object[] given = new Object[types];
                int rest = i;
                for (int k = 0; k < types; k++) {
                    int value = ODD[rest % ODD.length];
                    rest /= ODD.length;
                    given[k] = m.getParameterTypes()[k] == long.class ? (Object) (long) value : (Object) value;
                }
                call(m, x, given);
            }
        }
    }

    private static void call(Method m, StoneMeet x, Object[] given) throws ReflectiveOperationException {
        try {
            long answer = ((Number) m.invoke(x, given)).longValue();
            due.is(m.getName() + " answers", answer >= -99000005 || m.getName().equals("write") ? 1 : 0, 1);
        } catch (InvocationTargetException e) {
            due.is(m.getName() + " threw " + e.getCause(), 1, 0);
        }
    }
}
