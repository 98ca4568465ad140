import java.lang.reflect.InvocationTargetException;
import java.lang.reflect.Method;
import java.util.ArrayList;
import java.util.Arrays;
import java.util.Comparator;
import java.util.List;
import java.util.Random;

/** Calls with any arguments, far beyond 512 of them too, throw the exceptions of their own promise alone. */
public final class RobustTest {
    private static final int[] NUMBERS = {
        Integer.MIN_VALUE, -99, -4, -3, -2, -1, 0, 0, 0, 1, 1, 2, 3, 4, 5, 6, 8, 9, 10, 11, 12, 15, 16, 17, 40, 50, 51,
        99, 100, 150, 170, 200, 201, 999, 1000, Integer.MAX_VALUE};

    public static void main(String[] args) throws IllegalAccessException {
        Random random = new Random(7);
        List<Method> methods = new ArrayList<>(Arrays.asList(Barrehouse.class.getDeclaredMethods()));
        methods.removeIf(method -> (method.getModifiers() & 1) == 0);
        methods.sort(Comparator.comparing(Method::getName));
        int wrong = 0;
        for (int run = 0; run < 40; run++) {
            Barrehouse x = new Barrehouse();
            for (int calls = 0; calls < 6000; calls++) {
                Method method = methods.get(random.nextInt(methods.size()));
                Throwable thrown = thrownBy(x, method, random);
                if (thrown != null && !isDue(method, thrown)) {
                    wrong++;
                    System.out.println("run " + run + ", call " + calls + ": " + method.getName() + " threw " + thrown);
                }
            }
            if (!x.isSound()) {
                wrong++;
                System.out.println("run " + run + " is not sound");
            }
        }
        System.out.println("40 runs of 6000 calls, " + wrong + " wrong");
        if (wrong != 0) {
            System.exit(1);
        }
    }

    /** It is one that the promise lists, and the class throws it itself: the machine's bear another place. */
    private static boolean isDue(Method method, Throwable thrown) {
        StackTraceElement[] trace = thrown.getStackTrace();
        boolean isOwn = trace.length > 0 && trace[0].getClassName().equals("Barrehouse");
        return isOwn && Arrays.asList(method.getExceptionTypes()).contains(thrown.getClass());
    }

    private static Throwable thrownBy(Barrehouse x, Method method, Random random) throws IllegalAccessException {
        Class<?>[] types = method.getParameterTypes();
        Object[] arguments = new Object[types.length];
        for (int at = 0; at < types.length; at++) {
            if (types[at] == boolean.class) {
                arguments[at] = random.nextBoolean();
            } else if (types[at] == char.class) {
                arguments[at] = "lrblrblrbx\0\uffff".charAt(random.nextInt(12));
            } else {
                arguments[at] = NUMBERS[random.nextInt(NUMBERS.length)];
            }
        }
        try {
            method.invoke(x, arguments);
            return null;
        } catch (InvocationTargetException e) {
            return e.getCause();
        }
    }
}
