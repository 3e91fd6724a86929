import java.lang.reflect.InvocationTargetException;
import java.lang.reflect.Method;
import java.lang.reflect.Modifier;
import java.util.ArrayList;
import java.util.Arrays;
import java.util.Comparator;
import java.util.List;
import java.util.Random;

/**
 * Runs of 512 calls with any arguments, in and far outside their ranges: a call throws what its line in the
 * document names, by a throw of the class itself, or nothing; and a house stays SOUND.
 */
public final class AnyArguments {
    private static final int RUNS = Integer.getInteger("runs", 300);
    private static final int CALLS = 512;
    private static final int[] EDGES = {Integer.MIN_VALUE, Integer.MIN_VALUE + 1, -32, -2, -1, 8, 9, 10, 12, 16, 20, 23, 24,
        31, 32, 33, 39, 40, 41, 49, 50, 60, 63, 64, 99, 100, 255, 256, 300, 301, 400, 401, 999, 1000, 1023, 1024, 9999, 10000,
        1 << 24, 1 << 30, Integer.MAX_VALUE - 1, Integer.MAX_VALUE};

    public static void main(String[] args) throws IllegalAccessException {
        List<Method> face = new ArrayList<>();
        for (Method method : PerfgaugeHouse.class.getDeclaredMethods()) {
            if (Modifier.isPublic(method.getModifiers())) face.add(method);
        }
        face.sort(Comparator.comparing(Method::getName));
        int wrong = 0;
        for (int run = 0; run < RUNS && wrong < 10; run++) wrong += wrongIn(new Random(run), face, run);
        System.out.println(wrong == 0 ? RUNS + " runs threw what they may" : wrong + " calls were wrong");
        System.exit(wrong == 0 ? 0 : 1);
    }

    private static int wrongIn(Random draw, List<Method> face, int run) throws IllegalAccessException {
        PerfgaugeHouse x = new PerfgaugeHouse();
        int wildness = run % 10;
        if (run % 3 != 0) x.plate(2 + draw.nextInt(5), 2 + draw.nextInt(3));
        for (int call = 1; call < CALLS; call++) {
            Method method = face.get(draw.nextInt(face.size()));
            if (method.getName().equals("plate") && draw.nextInt(8) != 0) continue;
            Object[] given = drawn(draw, method, wildness);
            String fault = faultOf(x, method, given);
            if (!fault.isEmpty()) {
                System.out.println("run " + run + ", call " + call + ": " + method.getName() + Arrays.toString(given) + fault);
                return 1;
            }
        }
        return 0;
    }

    private static Object[] drawn(Random draw, Method method, int wildness) {
        Object[] given = new Object[method.getParameterCount()];
        for (int i = 0; i < given.length; i++) {
            boolean isFlag = method.getParameterTypes()[i] == boolean.class;
            given[i] = isFlag ? (Object) draw.nextBoolean() : (Object) number(draw, wildness);
        }
        return given;
    }

    private static int number(Random draw, int wildness) {
        if (draw.nextInt(30) < wildness) return EDGES[draw.nextInt(EDGES.length)];
        if (draw.nextInt(60) < wildness) return draw.nextInt();
        return draw.nextInt(draw.nextInt(4) == 0 ? 120 : draw.nextBoolean() ? 12 : 4);
    }

    private static String faultOf(PerfgaugeHouse x, Method method, Object[] given) throws IllegalAccessException {
        try {
            Object answer = method.invoke(x, given);
            return method.getName().equals("isSound") && !answer.equals(true) ? " is not SOUND" : "";
        } catch (InvocationTargetException e) {
            Throwable thrown = e.getCause();
            boolean isNamed = Arrays.asList(method.getExceptionTypes()).contains(thrown.getClass());
            boolean isOwn = thrown.getStackTrace().length > 0
                    && thrown.getStackTrace()[0].getClassName().startsWith("PerfgaugeHouse")
                    && thrown.getStackTrace()[0].getMethodName().startsWith("check");
            return isNamed && isOwn ? "" : " threw " + thrown;
        }
    }
}
