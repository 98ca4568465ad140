import java.lang.reflect.Constructor;
import java.lang.reflect.Field;
import java.lang.reflect.Method;
import java.lang.reflect.Modifier;
import java.nio.file.Files;
import java.nio.file.Path;
import java.util.ArrayList;
import java.util.HashMap;
import java.util.HashSet;
import java.util.List;
import java.util.Map;
import java.util.Set;
import java.util.regex.Matcher;
import java.util.regex.Pattern;

/** What LANGUAGE.md rules out, as far as the text of the class and its members show it. */
public final class RulesTest {
    private static final Check check = new Check();
    private static final int LONGEST_METHOD = 60;
    private static final int MOST_CLASSES = 12;
    private static final int MOST_FIELDS = 20;
    private static final int MOST_PARAMETERS = 7;
    private static final Set<String> LIBRARY_CLASSES = Set.of("ArrayList", "Math", "System",
            "IllegalStateException", "IllegalArgumentException", "IndexOutOfBoundsException",
            "UnsupportedOperationException", "NoSuchElementException");
    private static final Set<String> LIBRARY_CALLS = Set.of("ArrayList.add", "ArrayList.get", "ArrayList.remove",
            "ArrayList.size", "ArrayList.isEmpty", "Math.max", "Math.min", "Math.abs", "System.arraycopy");
    private static final Set<String> RULED_OUT = Set.of("try", "catch", "finally", "synchronized", "assert",
            "instanceof", "volatile", "while", "package", "native", "transient", "strictfp", "goto", "protected",
            "equals", "hashCode", "toString");
    private static final Set<Class<?>> CONSTANT_TYPES =
            Set.of(int.class, long.class, boolean.class, char.class, String.class, int[].class, long[].class,
                    char[].class, byte[].class);

    public static void main(String[] args) throws Exception {
        List<Class<?>> classes = new ArrayList<>();
        classes.add(Barrehouse.class);
        classes.addAll(List.of(Barrehouse.class.getDeclaredClasses()));
        String text = Files.readString(Path.of("src/main/java/Barrehouse.java"));
        lines(text);
        names(codeOf(text), classes);
        lengths(text);
        methods(classes);
        fields(classes);
        check.same(true, classes.size() <= MOST_CLASSES);
        check.finish();
    }

    private static void lines(String text) {
        List<String> imports = new ArrayList<>();
        for (String line : text.lines().toList()) {
            check.same(true, line.length() <= 120);
            check.same(true, line.chars().allMatch(sign -> sign >= 32 && sign < 127));
            if (line.startsWith("import")) {
                imports.add(line);
            }
        }
        check.same(List.of("import java.util.ArrayList;", "import java.util.NoSuchElementException;"), imports);
    }

    /** The text without comments, and without what stands between quotes. */
    private static String codeOf(String text) {
        return text.replaceAll("(?s)/\\*.*?\\*/", "").replaceAll("\"[^\"\n]*\"|'[^'\n]*'", "0")
                .replaceAll("//[^\n]*", "").replaceAll("(?m)^import .*$", "");
    }

    private static void names(String code, List<Class<?>> classes) {
        check.same(false, code.contains("->"));
        check.same(false, code.contains("::"));
        check.same(false, code.contains("static {"));
        Set<String> known = new HashSet<>(LIBRARY_CLASSES);
        for (Class<?> type : classes) {
            known.add(type.getSimpleName());
            for (Field field : type.getDeclaredFields()) {
                known.add(field.getName());
            }
        }
        Matcher name = Pattern.compile("[A-Za-z_]\\w*").matcher(code);
        while (name.find()) {
            String found = name.group();
            check.same(found, RULED_OUT.contains(found) ? "a name that is not ruled out" : found);
            if (Character.isUpperCase(found.charAt(0))) {
                check.same(found, known.contains(found) ? found : "a name of the class, or of the library's list");
            }
        }
        calls(code, classes);
    }

    /** Each call of a member is one of an own method, or of the library's list. */
    private static void calls(String code, List<Class<?>> classes) {
        Set<String> own = new HashSet<>();
        for (Class<?> type : classes) {
            for (Method method : type.getDeclaredMethods()) {
                own.add(method.getName());
            }
        }
        Matcher call = Pattern.compile("(\\w+)?\\.(\\w+)\\(").matcher(code);
        while (call.find()) {
            String on = call.group(1);
            String called = call.group(2);
            boolean isStatic = on != null && (on.equals("Math") || on.equals("System"));
            boolean isListed = LIBRARY_CALLS.contains((isStatic ? on : "ArrayList") + "." + called);
            check.same(called, isListed || !isStatic && own.contains(called) ? called : "a call of the list");
        }
    }

    /** Whatever opens as far to the left as a method does closes as a method has to. */
    private static void lengths(String text) {
        Map<String, Integer> opened = new HashMap<>();
        int at = 0;
        for (String line : text.lines().toList()) {
            at++;
            String indent = line.substring(0, line.length() - line.stripLeading().length());
            if (indent.length() != 4 && indent.length() != 8) {
                continue;
            }
            if (line.strip().equals("}")) {
                Integer from = opened.remove(indent);
                check.same(true, from == null || at - from < LONGEST_METHOD);
            } else if (line.endsWith("{") && !line.contains(" class ")) {
                opened.put(indent, at);
            }
        }
    }

    private static void methods(List<Class<?>> classes) {
        Set<String> publicNames = new HashSet<>();
        for (Method method : Barrehouse.class.getDeclaredMethods()) {
            if (Modifier.isPublic(method.getModifiers())) {
                publicNames.add(method.getName());
            }
        }
        for (Class<?> type : classes) {
            for (Method method : type.getDeclaredMethods()) {
                boolean isPublic = Modifier.isPublic(method.getModifiers());
                check.same(type == Barrehouse.class && isPublic, publicNames.contains(method.getName()));
                check.same(true, method.getParameterCount() <= MOST_PARAMETERS);
            }
            for (Constructor<?> constructor : type.getDeclaredConstructors()) {
                check.same(true, constructor.getParameterCount() <= MOST_PARAMETERS);
            }
        }
    }

    private static void fields(List<Class<?>> classes) {
        Set<Class<?>> held = new HashSet<>(classes);
        held.addAll(CONSTANT_TYPES);
        held.addAll(Set.of(int[][].class, ArrayList.class));
        for (Class<?> type : classes) {
            int own = 0;
            for (Field field : type.getDeclaredFields()) {
                if (Modifier.isStatic(field.getModifiers())) {
                    check.same(true, Modifier.isFinal(field.getModifiers()));
                    check.same(true, CONSTANT_TYPES.contains(field.getType()));
                } else {
                    own++;
                    Class<?> part = field.getType().isArray() && !held.contains(field.getType())
                            ? field.getType().getComponentType() : field.getType();
                    check.same(true, held.contains(part));
                }
            }
            check.same(true, own <= MOST_FIELDS);
        }
    }
}
