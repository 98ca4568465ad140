import java.lang.reflect.InvocationTargetException;
import java.lang.reflect.Method;
import java.util.Arrays;
import java.util.HashMap;
import java.util.List;
import java.util.Map;
import java.util.Random;
import java.util.TreeMap;

/** Runs of 512 calls, drawn from written seeds, each answered by the class and by the plain company alike. */
public final class RandomRunsTest {
    private static final int RUNS = 1200;
    private static final int LENGTH = 512;
    private static final String[] CALLS = {
        "step", "tempi", "phrase", "add", "take", "mirror", "weight", "tempo", "place", "meets", "changes", "bridge",
        "dancer", "promote", "hurt", "load", "work", "role", "partner", "learn", "isLearnt", "rehearse",
        "evening", "bars", "bars", "cast", "drop", "who", "isReady", "casts", "least", "leastFor", "dance", "days",
        "day", "shoes", "minutes", "bill", "checksum", "castShare", "meanLoad", "isSound"};
    private static final String[] MUST_BE_SEEN = {
        "dance 0", "dance 1", "dance 2", "dance throws UnsupportedOperationException", "casts 0", "casts more",
        "least 0", "least more", "least throws NoSuchElementException", "leastFor more",
        "bars d", "bars i", "bars k", "bars h", "bars n", "bars o", "bars p", "bars r", "bars -",
        "isReady true", "isReady false", "cast -1", "cast 0", "cast 1", "drop 0", "who 0", "partner 1", "partner 2",
        "meets 0", "meets more", "meets throws NoSuchElementException", "tempo throws NoSuchElementException",
        "bridge 0", "bridge 1", "bridge 2", "bridge throws NoSuchElementException",
        "step throws IllegalStateException", "phrase throws IllegalStateException",
        "mirror throws IllegalStateException", "add throws IllegalStateException",
        "dancer throws IllegalStateException", "work throws IllegalStateException",
        "role throws IllegalStateException", "role throws UnsupportedOperationException",
        "evening throws IllegalStateException", "evening throws UnsupportedOperationException",
        "days throws IllegalStateException", "promote throws UnsupportedOperationException"};

    private static final TreeMap<String, Integer> seen = new TreeMap<>();
    private static final Map<String, Method> methods = new HashMap<>();
    private static int wrong = 0;

    private final Random random;
    private final Barrehouse tested = new Barrehouse();
    private final PlainCompany plain = new PlainCompany();
    private final int seed;
    private final int rashness;
    private final int crowd;
    private final boolean isCalm;
    private final boolean isFull;
    private int calls = 0;
    private boolean isLost = false;

    private RandomRunsTest(int seed) {
        this.seed = seed;
        random = new Random(seed);
        rashness = seed % 3 == 0 ? 6 : seed % 3 == 1 ? 20 : 100;
        crowd = seed % 5 == 0 ? 12 : 3 + seed % 5;
        isCalm = seed % 2 == 0;
        isFull = seed % 7 == 0;
    }

    public static void main(String[] args) {
        for (Class<?> type : new Class<?>[] {Barrehouse.class, PlainCompany.class}) {
            for (Method method : type.getDeclaredMethods()) {
                if (Arrays.asList(CALLS).contains(method.getName()) && method.getReturnType() != void.class) {
                    Method before = methods.get(type.getName() + method.getName());
                    // The plain company has helpers of a public name with other parameters, which are private.
                    if (before == null || (method.getModifiers() & 2) == 0) {
                        methods.put(type.getName() + method.getName(), method);
                    }
                }
            }
        }
        for (int seed = 1; seed <= RUNS && wrong < 10; seed++) {
            new RandomRunsTest(seed).run();
        }
        if (args.length > 0) {
            seen.forEach((outcome, times) -> System.out.println(outcome + ": " + times));
        }
        for (String outcome : MUST_BE_SEEN) {
            if (!seen.containsKey(outcome)) {
                wrong++;
                System.out.println("no run had " + outcome);
            }
        }
        System.out.println(RUNS + " runs of " + LENGTH + " calls, " + wrong + " wrong");
        if (wrong != 0) {
            System.exit(1);
        }
    }

    private void run() {
        found();
        while (calls < LENGTH && !isLost) {
            int kind = random.nextInt(10);
            if (kind == 0) {
                stage(number(0, plain.size("evenings") - 1));
            } else if (kind == 1 && plain.size("evenings") < (isFull ? 12 : 9)) {
                draw("evening");
            } else {
                String name = CALLS[random.nextInt(CALLS.length)];
                boolean isRare = name.equals("days") || name.equals("add") || name.equals("take");
                draw(isRare && random.nextInt(3) > 0 ? "bars" : name);
            }
        }
    }

    /** The steps, phrases, dancers, works and roles with which a run begins. */
    private void found() {
        times("step", isFull ? 17 : 3 + random.nextInt(4));
        times("phrase", 3);
        times("add", isFull ? 40 : 6);
        times("dancer", crowd + (isFull ? 1 : 0));
        times("work", isFull ? 5 : 2);
        times("role", 2 + random.nextInt(6));
        times("partner", 2);
        times("evening", 2);
        if (isFull) {
            times("mirror", 10);
            times("days", 12);
        }
    }

    private void times(String name, int times) {
        for (int time = 0; time < times; time++) {
            draw(name);
        }
    }

    /** Casts the least cast with all that it lacks, or nearly all, and dances if it can be. */
    private void stage(int evening) {
        List<Integer> roles = plain.rolesOn(evening);
        int[] dancers = new int[roles.size()];
        for (int at = 0; at < dancers.length; at++) {
            Object dancer = both("leastFor", evening, roles.get(at));
            if (!(dancer instanceof Integer)) {
                return;
            }
            dancers[at] = (Integer) dancer;
        }
        boolean isLazy = random.nextInt(4) == 0;
        for (int at = 0; at < dancers.length; at++) {
            both("learn", dancers[at], roles.get(at), isLazy ? 1 : 50);
            for (int other = 0; other < at; other++) {
                both("rehearse", dancers[at], dancers[other], isLazy ? 3 : 5);
            }
            both("shoes", dancers[at], number(1, 3), number(1, 5), isLazy ? 1 : 0);
        }
        both("casts", evening);
        for (int at = 0; at < dancers.length; at++) {
            both("cast", evening, roles.get(at), dancers[at]);
            both("bars", evening, roles.get(at), random.nextInt(crowd));
        }
        both("isReady", evening);
        both("dance", evening);
        both("checksum");
        for (int dancer : dancers) {
            both("minutes", dancer);
            both("load", dancer);
        }
    }

    private Object both(String name, Object... arguments) {
        calls++;
        Object got = answer(tested, name, arguments);
        if (calls > LENGTH || isLost) {
            return got;
        }
        Object due = answer(plain, name, arguments);
        note(name, due);
        if (!got.equals(due)) {
            wrong++;
            isLost = true;
            System.out.println("seed " + seed + ", call " + calls + ": " + name + Arrays.toString(arguments)
                    + " answered " + got + ", due is " + due);
        }
        return got;
    }

    private static Object answer(Object company, String name, Object... arguments) {
        try {
            return methods.get(company.getClass().getName() + name).invoke(company, arguments);
        } catch (InvocationTargetException e) {
            return "throws " + e.getCause().getClass().getSimpleName();
        } catch (IllegalAccessException e) {
            throw new AssertionError(e);
        }
    }

    private static void note(String name, Object answer) {
        boolean isMany = answer instanceof Integer && (Integer) answer > 0
                && List.of("casts", "least", "leastFor", "meets").contains(name);
        boolean isLarge = answer instanceof Long || answer instanceof Float || answer instanceof Double
                || answer instanceof Integer && (Integer) answer > 2;
        seen.merge(name + " " + (isMany || isLarge ? "more" : answer), 1, Integer::sum);
    }

    private boolean isRash() {
        return random.nextInt(rashness) == 0;
    }

    private int number(int low, int high) {
        if (isRash()) {
            int[] odd = {low - 1, high + 1, -1, Integer.MIN_VALUE, Integer.MAX_VALUE, 16, 12};
            return odd[random.nextInt(odd.length)];
        }
        int edge = random.nextInt(8);
        return edge == 0 || high <= low ? low : edge == 1 ? high : low + random.nextInt(high - low + 1);
    }

    private int one(String kind) {
        return number(0, plain.size(kind) - 1);
    }

    private int roleOn(int evening) {
        List<Integer> roles = plain.rolesOn(evening);
        return roles.isEmpty() || isRash() ? one("roles") : roles.get(random.nextInt(roles.size()));
    }

    private char letter() {
        return isRash() ? (char) random.nextInt(128) : "lrb".charAt(random.nextInt(3));
    }

    private int nearDay() {
        return isRash() ? number(0, 999) : plain.day() + random.nextInt(isCalm ? 2 : 5);
    }

    private void draw(String name) {
        both(name, argumentsOf(name));
    }

    private Object[] argumentsOf(String name) {
        int evening = one("evenings");
        return switch (name) {
            case "step" -> new Object[] {letter(), letter(), number(1, 8), number(-3, 3), number(-3, 3)};
            case "tempi" -> tempi();
            case "add" -> item();
            case "take", "mirror" -> new Object[] {one("phrases")};
            case "weight", "tempo" -> new Object[] {one("phrases"), random.nextBoolean()};
            case "place" -> new Object[] {one("phrases"), number(0, 40), random.nextBoolean()};
            case "meets" -> new Object[] {one("phrases"), one("phrases"), number(-3, 3), number(-3, 3)};
            case "changes", "bridge" -> new Object[] {one("phrases"), one("phrases")};
            case "dancer" -> new Object[] {number(0, 5), number(150, 200), number(10, isCalm ? 99 : 14)};
            case "promote", "load", "minutes" -> new Object[] {one("dancers")};
            case "hurt" -> new Object[] {one("dancers"), number(1, isRash() ? 99 : 3)};
            case "role" -> role();
            case "partner" -> new Object[] {one("roles"), one("roles")};
            case "learn" -> new Object[] {one("dancers"), one("roles"), number(1, isCalm ? 50 : 8)};
            case "isLearnt" -> new Object[] {one("dancers"), one("roles")};
            case "rehearse" -> new Object[] {one("dancers"), one("dancers"), number(1, isCalm ? 50 : 4)};
            case "evening" -> new Object[] {one("works"), nearDay(), number(isCalm ? 80 : 60, isCalm ? 120 : 150)};
            case "bars", "cast" -> new Object[] {evening, roleOn(evening), one("dancers")};
            case "drop", "who", "leastFor" -> new Object[] {evening, roleOn(evening)};
            case "isReady", "casts", "least", "dance" -> new Object[] {evening};
            case "days" -> new Object[] {number(1, isFull || isRash() ? 99 : 2)};
            case "shoes" -> new Object[] {one("dancers"), number(1, 9), number(1, 5), number(0, isRash() ? 99 : 2)};
            default -> new Object[0];
        };
    }

    private Object[] tempi() {
        if (isCalm) {
            return new Object[] {one("steps"), number(40, 70), number(130, 200)};
        }
        return new Object[] {one("steps"), number(40, 120), number(60, 200)};
    }

    private Object[] item() {
        int phrase = number(0, isCalm ? 2 : 5);
        int step = one("steps");
        boolean isMirrored = random.nextBoolean();
        for (int tries = 0; tries < 4 && !plain.isJoined(phrase, step, isMirrored); tries++) {
            step = one("steps");
            isMirrored = random.nextBoolean();
        }
        return new Object[] {phrase, step, isMirrored};
    }

    private Object[] role() {
        int low = number(150, isCalm ? 152 : 175);
        int high = number(isCalm ? 196 : 176, 200);
        int weight = number(isCalm ? 0 : 3, isCalm ? 6 : 9);
        return new Object[] {one("works"), number(0, 2), number(0, isCalm ? 1 : 3), low, high, weight};
    }
}
