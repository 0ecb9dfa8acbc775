import java.lang.reflect.InvocationTargetException;
import java.lang.reflect.Method;
import java.lang.reflect.Modifier;
import java.util.ArrayList;
import java.util.Arrays;
import java.util.Comparator;
import java.util.List;
import java.util.Random;

/**
 * Runs of 512 calls with the numbers at the bounds and the farthest ones in all places: nothing but what a method's
 * throws clause names ever reaches its caller, and the oracle throws, or answers, the same.
 */
public final class FarNumbersTest {
    private static final int[] NUMBERS = {0, 0, 0, 1, 1, 2, 3, 4, 5, 6, 7, 8, 9, 10, 11, 12, 15, 16, 23, 24, 39, 40, 60, 61, 99, 100,
        399, 400, 401, 999, 1000, 1023, 1024, 4095, 4096, 9999, 10000, -1, -2, 65536, 0x7fffffff, 0x7ffffffe, -0x80000000,
        -0x7fffffff, 0x40000000, 0x20202020};
    /** The oracle takes too long for these. */
    private static final List<String> DEAR = List.of("settles", "questions", "ask", "least", "beside");
    private static final List<Method> METHODS = methods();

    private FarNumbersTest() {
    }

    private static List<Method> methods() {
        List<Method> methods = new ArrayList<>();
        for (Method method : FoundThings.class.getDeclaredMethods()) {
            if (Modifier.isPublic(method.getModifiers())) {
                methods.add(method);
            }
        }
        methods.sort(Comparator.comparing(Method::getName));
        return methods;
    }

    public static void main(String[] args) throws ReflectiveOperationException {
        long seed = args.length > 0 ? Long.parseLong(args[0]) : 1;
        int runs = args.length > 1 ? Integer.parseInt(args[1]) : 40;
        for (int i = 0; i < runs; i++) {
            Random random = new Random(seed * 7919 + i);
            FoundThings mine = new FoundThings();
            Oracle theirs = new Oracle();
            for (int call = 0; call < 512; call++) {
                Method method = METHODS.get(random.nextInt(METHODS.size()));
                Object[] numbers = numbers(method, random, i % 4 == 0);
                String got = answer(method, mine, numbers);
                String what = "run " + i + ", call " + call + ", " + method.getName() + Arrays.toString(numbers);
                Check.due(what + " threw " + got, 1, mayBe(method, got) ? 1 : 0);
                if (!DEAR.contains(method.getName())) {
                    Method other = Oracle.class.getMethod(method.getName(), method.getParameterTypes());
                    String due = answer(other, theirs, numbers);
                    Check.due(what + ": " + got + ", due is " + due, 1, got.equals(due) ? 1 : 0);
                }
            }
        }
        Check.end();
    }

    /** A tame run has small numbers mostly, so that much is told in it. */
    private static Object[] numbers(Method method, Random random, boolean tame) {
        Object[] numbers = new Object[method.getParameterCount()];
        for (int i = 0; i < numbers.length; i++) {
            boolean flag = method.getParameterTypes()[i] == boolean.class;
            int below = tame || random.nextInt(3) > 0 ? 8 : NUMBERS.length;
            numbers[i] = flag ? (Object) random.nextBoolean() : (Object) NUMBERS[random.nextInt(below)];
        }
        return numbers;
    }

    private static String answer(Method method, Object object, Object[] numbers) throws IllegalAccessException {
        try {
            return method.invoke(object, numbers).toString();
        } catch (InvocationTargetException e) {
            return e.getCause().getClass().getName();
        }
    }

    private static boolean mayBe(Method method, String got) {
        return !got.contains("Exception") && !got.contains("Error")
            || Arrays.stream(method.getExceptionTypes()).anyMatch(type -> type.getName().equals(got));
    }
}
