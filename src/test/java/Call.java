import java.lang.reflect.InvocationTargetException;
import java.lang.reflect.Method;
import java.lang.reflect.Modifier;
import java.util.ArrayList;
import java.util.HashMap;
import java.util.List;
import java.util.Map;
import java.util.Set;
import java.util.regex.Matcher;
import java.util.regex.Pattern;

/**
 * A call as the document's example writes it: step('l', 'r', 2, 1, 0) = 0, or days(0) = throws
 * IllegalArgumentException. Without an answer it must not throw. A number ahead and a star say how often:
 * 3 * phrase(). MIN and MAX are the least and the greatest int, #65 is the char of that number.
 */
final class Call {
    private static final Pattern FORM = Pattern.compile("(?:(\\d+) \\* )?(\\w+)\\(([^)]*)\\)(?: = (.+))?");
    private static final Set<String> CHANGES = Set.of("step", "tempi", "phrase", "add", "take", "mirror", "dancer",
            "promote", "hurt", "work", "role", "partner", "learn", "rehearse", "evening", "cast", "drop", "dance",
            "days", "shoes");
    private static final Map<String, Method> METHODS = methods();

    final String text;
    final Method method;
    private final Object[] arguments;
    private final String due;

    private Call(String text, String name, String arguments, String due) {
        this.text = text;
        this.method = METHODS.get(name);
        this.due = due;
        if (method == null) {
            throw new AssertionError("no such method: " + text);
        }
        String[] told = arguments.isBlank() ? new String[0] : arguments.split(",");
        Class<?>[] types = method.getParameterTypes();
        if (told.length != types.length) {
            throw new AssertionError("not as many arguments: " + text);
        }
        this.arguments = new Object[told.length];
        for (int at = 0; at < told.length; at++) {
            this.arguments[at] = argument(told[at].strip(), types[at]);
        }
    }

    /** The calls of a text, each behind the other, parted by semicolons. */
    static List<Call> all(String text) {
        List<Call> calls = new ArrayList<>();
        for (String piece : text.replace('\n', ' ').split(";")) {
            String told = piece.strip();
            if (told.isEmpty()) {
                continue;
            }
            Matcher form = FORM.matcher(told);
            if (!form.matches()) {
                throw new AssertionError("not a call: " + told);
            }
            int times = form.group(1) == null ? 1 : Integer.parseInt(form.group(1));
            for (int time = 0; time < times; time++) {
                calls.add(new Call(told, form.group(2), form.group(3), form.group(4)));
            }
        }
        return calls;
    }

    /** Its answer, or the class of what it throws; what the machine throws is told as an error of its own. */
    Object on(Barrehouse x) {
        try {
            return method.invoke(x, arguments);
        } catch (InvocationTargetException e) {
            Throwable thrown = e.getCause();
            StackTraceElement[] trace = thrown.getStackTrace();
            boolean isOwn = trace.length > 0 && trace[0].getClassName().equals("Barrehouse");
            return isOwn ? thrown.getClass() : InternalError.class;
        } catch (IllegalAccessException e) {
            throw new AssertionError(e);
        }
    }

    static Class<?>[] exceptionsOf(String name) {
        return METHODS.get(name).getExceptionTypes();
    }

    boolean isChange() {
        return CHANGES.contains(method.getName());
    }

    boolean isDue(Object got) {
        if (got instanceof Class<?> thrown) {
            return ("throws " + thrown.getSimpleName()).equals(due);
        }
        if (due == null) {
            return true;
        }
        if (due.startsWith("throws")) {
            return false;
        }
        if (got instanceof Float) {
            return got.equals(Float.parseFloat(due));
        }
        return got instanceof Double ? got.equals(Double.parseDouble(due)) : String.valueOf(got).equals(due);
    }

    private static Map<String, Method> methods() {
        Map<String, Method> methods = new HashMap<>();
        for (Method method : Barrehouse.class.getDeclaredMethods()) {
            if (Modifier.isPublic(method.getModifiers())) {
                methods.put(method.getName(), method);
            }
        }
        return methods;
    }

    private static Object argument(String told, Class<?> type) {
        if (type == boolean.class) {
            return Boolean.parseBoolean(told);
        }
        if (type == char.class) {
            return told.startsWith("#") ? (char) Integer.parseInt(told.substring(1)) : told.charAt(1);
        }
        return switch (told) {
            case "MIN" -> Integer.MIN_VALUE;
            case "MAX" -> Integer.MAX_VALUE;
            default -> Integer.parseInt(told);
        };
    }
}
