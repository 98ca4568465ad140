import java.lang.reflect.Constructor;
import java.lang.reflect.Field;
import java.lang.reflect.Method;
import java.lang.reflect.Modifier;
import java.util.HashSet;
import java.util.Set;
import java.util.TreeSet;

/** The face of the class as the document lists it, and nothing beside it. */
public final class FaceTest {
    private static final Check check = new Check();
    private static final String FACE = """
        int step(char,char,int,int,int) IllegalArgumentException,IllegalStateException
        int tempi(int,int,int) IndexOutOfBoundsException,IllegalArgumentException
        int phrase() IllegalStateException
        int add(int,int,boolean) IndexOutOfBoundsException,UnsupportedOperationException,IllegalStateException
        int take(int) IndexOutOfBoundsException,UnsupportedOperationException
        int mirror(int) IndexOutOfBoundsException,IllegalStateException
        char weight(int,boolean) IndexOutOfBoundsException,NoSuchElementException
        int tempo(int,boolean) IndexOutOfBoundsException,NoSuchElementException
        int place(int,int,boolean) IndexOutOfBoundsException,IllegalArgumentException
        int meets(int,int,int,int) IndexOutOfBoundsException,NoSuchElementException
        int changes(int,int) IndexOutOfBoundsException
        int bridge(int,int) IndexOutOfBoundsException,UnsupportedOperationException,NoSuchElementException
        int dancer(int,int,int) IllegalArgumentException,IllegalStateException
        int promote(int) IndexOutOfBoundsException,UnsupportedOperationException
        int hurt(int,int) IndexOutOfBoundsException,IllegalArgumentException
        int load(int) IndexOutOfBoundsException
        int work() IllegalStateException
        int role(int,int,int,int,int,int) \
        IndexOutOfBoundsException,IllegalArgumentException,UnsupportedOperationException,IllegalStateException
        int partner(int,int) IndexOutOfBoundsException,IllegalArgumentException,UnsupportedOperationException
        int learn(int,int,int) IndexOutOfBoundsException,IllegalArgumentException
        boolean isLearnt(int,int) IndexOutOfBoundsException
        int rehearse(int,int,int) IndexOutOfBoundsException,IllegalArgumentException
        int evening(int,int,int) \
        IndexOutOfBoundsException,IllegalArgumentException,UnsupportedOperationException,IllegalStateException
        char bars(int,int,int) IndexOutOfBoundsException
        int cast(int,int,int) IndexOutOfBoundsException,UnsupportedOperationException
        int drop(int,int) IndexOutOfBoundsException,UnsupportedOperationException
        int who(int,int) IndexOutOfBoundsException,NoSuchElementException
        boolean isReady(int) IndexOutOfBoundsException
        int casts(int) IndexOutOfBoundsException
        int least(int) IndexOutOfBoundsException,NoSuchElementException
        int leastFor(int,int) IndexOutOfBoundsException,NoSuchElementException
        int dance(int) IndexOutOfBoundsException,UnsupportedOperationException
        int days(int) IllegalArgumentException,IllegalStateException
        int day()
        int shoes(int,int,int,int) IndexOutOfBoundsException,IllegalArgumentException
        int minutes(int) IndexOutOfBoundsException
        int bill()
        long checksum()
        float castShare() NoSuchElementException
        double meanLoad() NoSuchElementException
        boolean isSound()
        """;

    public static void main(String[] args) {
        face();
        nothingElse();
        check.finish();
    }

    private static void face() {
        check.same("", Barrehouse.class.getPackageName());
        check.same(Modifier.PUBLIC | Modifier.FINAL, Barrehouse.class.getModifiers());
        Constructor<?>[] constructors = Barrehouse.class.getDeclaredConstructors();
        check.same(1, constructors.length);
        check.same("public Barrehouse()", constructors[0].toString());
        Set<String> got = new TreeSet<>();
        for (Method method : Barrehouse.class.getDeclaredMethods()) {
            if (!Modifier.isPrivate(method.getModifiers())) {
                check.same(Modifier.PUBLIC, method.getModifiers());
                got.add(told(method));
            }
        }
        check.same(new TreeSet<>(FACE.lines().map(String::strip).toList()), got);
    }

    private static String told(Method method) {
        StringBuilder text = new StringBuilder(method.getReturnType() + " " + method.getName() + "(");
        String between = "";
        for (Class<?> type : method.getParameterTypes()) {
            text.append(between).append(type);
            between = ",";
        }
        text.append(")");
        between = " ";
        for (Class<?> type : method.getExceptionTypes()) {
            text.append(between).append(type.getSimpleName());
            between = ",";
        }
        return text.toString();
    }

    private static void nothingElse() {
        Set<String> names = new HashSet<>();
        for (Method method : Barrehouse.class.getDeclaredMethods()) {
            check.same(true, names.add(method.getName()));
        }
        for (Field field : Barrehouse.class.getDeclaredFields()) {
            check.same(true, Modifier.isPrivate(field.getModifiers()));
            check.same(true, Modifier.isFinal(field.getModifiers()) || !Modifier.isStatic(field.getModifiers()));
        }
        for (Class<?> type : Barrehouse.class.getDeclaredClasses()) {
            check.same(true, Modifier.isPrivate(type.getModifiers()) && Modifier.isStatic(type.getModifiers()));
        }
    }
}
