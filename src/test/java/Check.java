import java.util.Objects;
import java.util.TreeMap;

/** Counts what was checked for each promise and prints every answer that is not the one that is due. */
final class Check {
    /** A call that may throw. */
    interface Call {
        Object run();
    }

    static final Class<?> RANGE = IllegalArgumentException.class;
    static final Class<?> FULL = IllegalStateException.class;
    static final Class<?> INDEX = IndexOutOfBoundsException.class;
    static final Class<?> UNFIT = UnsupportedOperationException.class;
    static final Class<?> NONE = java.util.NoSuchElementException.class;

    private final TreeMap<Integer, Integer> done = new TreeMap<>();
    private int promise = 0;
    private int wrong = 0;

    void promise(int number) {
        promise = number;
    }

    void same(Object due, Object got) {
        done.merge(promise, 1, Integer::sum);
        if (!Objects.equals(due, got)) {
            wrong++;
            StackTraceElement[] trace = new Throwable().getStackTrace();
            int line = 0;
            for (StackTraceElement element : trace) {
                if (!element.getClassName().startsWith("Check")) {
                    line = element.getLineNumber();
                    break;
                }
            }
            System.out.println("promise " + promise + ", line " + line + ": answered " + got + ", due is " + due);
        }
    }

    void fails(Class<?> due, Call call) {
        Object got;
        try {
            got = call.run();
        } catch (RuntimeException e) {
            got = e.getClass();
        }
        same(due, got);
    }

    void finish() {
        int all = 0;
        for (int count : done.values()) {
            all += count;
        }
        System.out.println(all + " checks of promises " + done.keySet() + ", " + wrong + " wrong");
        if (wrong != 0 || all == 0) {
            System.exit(1);
        }
    }
}
