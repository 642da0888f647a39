import com.sun.management.ThreadMXBean;
import java.lang.management.ManagementFactory;
import java.lang.reflect.Array;
import java.lang.reflect.Field;
import java.lang.reflect.InvocationTargetException;
import java.lang.reflect.Method;
import java.lang.reflect.Modifier;
import java.util.ArrayList;
import java.util.List;

/**
 * What only a run can show of LANGUAGE.md: no call ever throws or fails to end, for any arguments in
 * any state, behind the 512th call too (7, 9), in a small stack (8); how much a new object takes up,
 * and that no call makes anything (12); and the same calls always give the same answers (13).
 */
public final class HardUseTest {
    private static final int OBJECTS = 3000, CALLS = 2000, MOST_SECONDS = 300;
    private static final long STACK = 160 * 1024;
    private static final int MOST_OBJECTS = 100, MOST_ELEMENTS = 5000;
    private static final int[] EDGES = {Integer.MIN_VALUE, Integer.MIN_VALUE + 1, -2000000000, -128, -100, -10, -2, 1000, 32767, 65536,
        1073741824, 2147483640, Integer.MAX_VALUE - 1, Integer.MAX_VALUE};
    private static final String LETTERS = "dmlspq0123456789!-()+*/%<=>&|?;~x ";

    private static long drawn = 20261119;
    private static int checks = 0;
    private static int wrong = 0;

    private static int draw(int below) {
        drawn = drawn * 6364136223846793005L + 1442695040888963407L;
        return (int) ((drawn >>> 33) % below);
    }

    private static void so(String what, boolean is) {
        checks++;
        if (!is) {
            wrong++;
            System.out.println("not so: " + what);
        }
    }

    // ---- any arguments in any state

    // Each call: how often it is made, and what its arguments are mostly like (see aptNumber).
    private static final String[] APT = {"person 2 skill", "debt 12 pair dk", "debts 6 shelf place n", "mend 6 small four small", "of 3 debt what",
        "feed 40 letter", "law 1", "worth 3 pair day", "ask 30 debt day", "has 3 small day", "go 2 any n", "led 3 led two", "waits 1",
        "bestDay 2 debt two", "plan 2 small day", "free 2 small day", "ring 2", "wiped 1", "balance 1 small", "hand 4 debts", "strike 1",
        "runaway 1 small", "heir 1 pair", "judge 4 shelf", "wet 2 shelf pair", "image 2", "back 4", "undo 3", "redo 3", "body 1 small",
        "act 3 debt four any", "trace 2 small", "keep 1 shelf small", "row 3 shelf four size", "put 40 shelf place value", "element 3 shelf place",
        "shift 6 shelf place shelf place n", "taken 2 shelf small", "count 2 small"};

    private static int anyNumber() {
        return draw(2) == 0 ? EDGES[draw(EDGES.length)] : draw(2) == 0 ? draw(600) - 60 : (int) (drawn >>> 16);
    }

    private static int aptNumber(String like) {
        switch (like) {
            case "skill": return 1 + draw(9);
            case "pair": return 10 * draw(8) + draw(8);
            case "dk": return 100 * (1 + draw(9)) + (draw(2) == 0 ? 12 : draw(13));
            case "shelf": return draw(6);
            case "place": return draw(3) == 0 ? draw(60) : draw(8);
            case "n": return 1 + draw(4);
            case "small": return draw(draw(2) == 0 ? 8 : 12);
            case "four": return draw(4);
            case "two": return draw(2);
            case "debt": return draw(20);
            case "debts": return 100 * draw(20) + draw(20);
            case "what": return draw(52);
            case "letter": return LETTERS.charAt(draw(LETTERS.length()));
            case "day": return draw(48);
            case "led": return 10 * draw(20) + draw(8);
            case "size": return draw(2) == 0 ? draw(61) : 12;
            case "value": return draw(9) - 1;
            default: return anyNumber();
        }
    }

    private static Object[] arguments(Method method, String[] apt) {
        Class<?>[] types = method.getParameterTypes();
        Object[] told = new Object[types.length];
        for (int i = 0; i < told.length; i++) {
            int number = draw(25) == 0 ? anyNumber() : aptNumber(apt[i + 2]);
            told[i] = types[i] == long.class ? (Object) (draw(25) == 0 ? drawn : (long) number) : (Object) number;
        }
        return told;
    }

    private static Method method(String name) {
        for (Method method : OwedDays.class.getDeclaredMethods()) {
            if (Modifier.isPublic(method.getModifiers()) && method.getName().equals(name)) {
                return method;
            }
        }
        throw new IllegalStateException(name);
    }

    private static long answer(OwedDays x, Method method, Object[] told) throws IllegalAccessException {
        try {
            return ((Number) method.invoke(x, told)).longValue();
        } catch (InvocationTargetException thrown) {
            so(method.getName() + List.of(told) + " threw " + thrown.getCause(), false);
            return 0;
        }
    }

    private static void useHard() throws IllegalAccessException {
        List<Method> often = new ArrayList<>();
        List<String[]> apt = new ArrayList<>();
        for (String words : APT) {
            String[] parts = words.split(" ");
            for (int k = 0; k < Integer.parseInt(parts[1]); k++) {
                often.add(method(parts[0]));
                apt.add(parts);
            }
        }
        for (int object = 0; object < OBJECTS; object++) {
            OwedDays x = new OwedDays();
            OwedDays twin = new OwedDays();
            boolean isAlike = true;
            for (int call = 0; call < CALLS; call++) {
                int which = draw(often.size());
                Method method = often.get(which);
                Object[] told = arguments(method, apt.get(which));
                isAlike &= answer(x, method, told) == answer(twin, method, told);
            }
            so("two objects with the same calls answer alike", isAlike);
        }
    }

    private static void useHardInTime() throws InterruptedException {
        Throwable[] thrown = new Throwable[1];
        Thread thread = new Thread(null, () -> {
            try {
                useHard();
            } catch (Throwable t) {
                thrown[0] = t;
            }
        }, "hard use", STACK);
        thread.setDaemon(true);
        thread.start();
        thread.join(1000L * MOST_SECONDS);
        so("all calls have ended within " + MOST_SECONDS + " s", !thread.isAlive());
        so("the calls ended well, not by " + thrown[0], thrown[0] == null);
    }

    // ---- the room

    private static int objects;
    private static int elements;

    private static void takeIn(Object object) throws IllegalAccessException {
        objects++;
        if (object.getClass().isArray()) {
            elements += Array.getLength(object);
            for (int i = 0; object instanceof Object[] && i < Array.getLength(object); i++) {
                takeIn(Array.get(object, i));
            }
            return;
        }
        for (Field field : object.getClass().getDeclaredFields()) {
            if (!Modifier.isStatic(field.getModifiers())) {
                field.setAccessible(true);
                elements++;
                if (!field.getType().isPrimitive()) {
                    takeIn(field.get(object));
                }
            }
        }
    }

    private static void lookAtRoom() throws IllegalAccessException {
        takeIn(new OwedDays());
        so("a new object takes up at most " + MOST_OBJECTS + " objects and arrays: " + objects, objects <= MOST_OBJECTS);
        so("a new object takes up at most " + MOST_ELEMENTS + " fields and elements: " + elements, elements <= MOST_ELEMENTS);
    }

    // ---- nothing is made by a call

    private static final String LAW = "d<20&q=1?l*s+(p+q)%5*3-m;!d|-(d-4)*2>m?99;l*s/(d%3)";

    private static OwedDays lived() {
        OwedDays x = new OwedDays();
        for (int p = 0; p < 8; p++) {
            x.person(1 + p);
        }
        for (int d = 0; d < 20; d++) {
            x.debt(10 * (d % 8) + (d % 8 + 1 + d / 8) % 8, 100 * (1 + d % 9) + (d % 3 == 0 ? 12 : d % 12));
        }
        for (int kind = 0; kind < 8; kind++) {
            x.body(kind);
        }
        x.row(0, 1, 60);
        x.row(1, 0, 60);
        x.keep(2, 7);
        return x;
    }

    private static long askAll(OwedDays x, int step) {
        long sum = x.person(step) + x.debt(step, 100 * step + 12) + x.debts(1, step, 2) + x.mend(step % 12, 0, 1 + step % 9);
        for (int i = 0; i < LAW.length(); i++) {
            sum += x.feed(LAW.charAt(i));
        }
        sum += x.law() + x.worth(1, step % 48) + x.ask(step % 20, step % 48) + x.has(step % 8, step % 48) + x.image() + x.go(step, 1 + step % 3);
        sum += x.led(10 * (step % 48) + step % 8, 1) + x.waits() + x.bestDay(step % 20, 0) + x.plan(step % 8, 47) + x.free(step % 8, 47);
        sum += x.ring() + x.wiped() + x.balance(step % 8) + x.hand(step) + x.strike() + x.runaway(step % 8) + x.heir(step % 80) + x.back();
        sum += x.judge(0) + x.wet(0, 1) + x.undo() + x.redo() + x.undo() + x.act(step % 8, step % 4, step) + x.trace(0) + x.keep(3, step % 8);
        sum += x.row(4, step % 5, step % 61) + x.put(4, 0, step) + x.element(4, 0) + x.shift(4, 0, 4, 1, 3) + x.taken(3, 0);
        for (int what = 0; what < 52; what++) {
            sum += x.of(step % 8, what) + x.count(what);
        }
        return sum;
    }

    // What the look at the counter itself makes is known from a look with no calls between.
    private static long madeByCalls(OwedDays x, ThreadMXBean threads, int calls) {
        long before = threads.getCurrentThreadAllocatedBytes();
        long between = threads.getCurrentThreadAllocatedBytes();
        long sum = 0;
        for (int step = 0; step < calls; step++) {
            sum += askAll(x, step);
        }
        long after = threads.getCurrentThreadAllocatedBytes();
        return sum == Long.MIN_VALUE ? sum : after - between - (between - before);
    }

    private static void lookAtMaking() {
        java.lang.management.ThreadMXBean any = ManagementFactory.getThreadMXBean();
        if (!(any instanceof ThreadMXBean) || !((ThreadMXBean) any).isThreadAllocatedMemorySupported()) {
            System.out.println("this machine doesn't tell what calls make: not looked at");
            return;
        }
        OwedDays x = lived();
        long least = Long.MAX_VALUE;
        for (int round = 0; round < 5; round++) {
            least = Math.min(least, madeByCalls(x, (ThreadMXBean) any, 2000));
        }
        so("calls make nothing, but were seen to make " + least + " bytes", least == 0);
    }

    public static void main(String[] args) throws Exception {
        lookAtRoom();
        lookAtMaking();
        useHardInTime();
        System.out.println("hard use: " + OBJECTS + " twins with " + CALLS + " calls each; a new object is " + objects + " objects and arrays, "
            + elements + " fields and elements; " + checks + " things looked at, " + wrong + " not so");
        if (wrong != 0) {
            System.exit(1);
        }
    }
}
