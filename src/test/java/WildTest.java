import java.lang.reflect.InvocationTargetException;
import java.lang.reflect.Method;
import java.util.Random;

/** Promises 1 to 26 with wild numbers: no call throws, in whatever state, and what a new object refuses changes nothing. */
public final class WildTest {
    private static final Due DUE = new Due("WildTest");
    private static final int[] EDGES = {Integer.MIN_VALUE, Integer.MIN_VALUE + 1, -10001, -101, -100, -61, -2, -1, 0, 1, 2,
        3, 4, 5, 9, 10, 11, 12, 13, 60, 61, 79, 80, 99, 100, 101, 120, 121, 199, 200, 400, 401, 719, 720, 721, 840, 2000,
        40101, 50101, Integer.MAX_VALUE - 1, Integer.MAX_VALUE};

    public static void main(String[] args) throws ReflectiveOperationException {
        refusedAtFirst();
        for (int seed = 0; seed < 400; seed++) {
            wildRun(new Random(seed), seed);
        }
        DUE.end();
    }

    private static Method[] calls() {
        Method[] all = HutLift.class.getDeclaredMethods();
        return java.util.Arrays.stream(all)
                .filter(m -> java.lang.reflect.Modifier.isPublic(m.getModifiers()))
                .sorted(java.util.Comparator.comparing(Method::getName))
                .toArray(Method[]::new);
    }

    private static void wildRun(Random chance, int seed) throws ReflectiveOperationException {
        HutLift x = new HutLift();
        Method[] calls = calls();
        for (int i = 0; i < 512; i++) {
            Method call = calls[chance.nextInt(calls.length)];
            Object[] numbers = new Object[call.getParameterCount()];
            for (int j = 0; j < numbers.length; j++) {
                numbers[j] = EDGES[chance.nextInt(EDGES.length)];
            }
            String thrown = "";
            try {
                call.invoke(x, numbers);
            } catch (InvocationTargetException e) {
                thrown = e.getCause().toString();
            }
            DUE.holds("seed " + seed + ": " + call.getName() + " threw " + thrown, thrown.isEmpty());
        }
    }

    /** Where there is nothing, every call about something is refused. */
    private static void refusedAtFirst() {
        for (int n : EDGES) {
            HutLift x = new HutLift();
            DUE.is("hang", x.hang(n, n), HutLift.NONE);
            DUE.is("off", x.off(n), HutLift.NONE);
            DUE.is("may", x.may(n, n, n), HutLift.NONE);
            DUE.is("fly", x.fly(n, n, n), HutLift.NONE);
            DUE.is("fuel", x.fuel(n), HutLift.NONE);
            DUE.is("about", x.about(n, 0), -9);
            DUE.is("pilotOf", x.pilotOf(n, 0), -9);
            DUE.is("cargo", x.cargo(n, 0), -9);
            DUE.is("flight", x.flight(n, 0), -9);
            DUE.is("lift", x.lift(n, 0, 0), -9);
            DUE.is("pack", x.pack(n, 5), HutLift.NONE);
            DUE.is("list", x.list(n), HutLift.NONE);
            DUE.is("order", x.order(n, n), HutLift.NONE);
            DUE.is("ordered", x.ordered(n), HutLift.NONE);
            DUE.is("says", x.says(n, n, n, n), -2000000000);
            DUE.is("load", x.load(n, 1, 0, 0), HutLift.NONE);
            for (int what = 0; what < 10; what++) {
                DUE.is("count(" + what + ")", x.count(what), what == 0 ? 1 : 0);
            }
        }
    }
}
