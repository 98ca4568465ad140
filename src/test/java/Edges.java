import java.util.ArrayList;
import java.util.HashSet;
import java.util.List;
import java.util.Set;
import java.util.TreeMap;
import java.util.TreeSet;

/**
 * Tells runs of calls to new objects, one for each sentence of the document that names a boundary case. Behind
 * each refused call it looks whether that changed anything, by another object to which it was not told.
 */
final class Edges {
    static final String INDEX = " = throws IndexOutOfBoundsException;";
    static final String RANGE = " = throws IllegalArgumentException;";
    static final String UNFIT = " = throws UnsupportedOperationException;";
    static final String FULL = " = throws IllegalStateException;";
    static final String NONE = " = throws NoSuchElementException;";

    private static final int MOST_CALLS = 512;

    private final TreeMap<Integer, Integer> runs = new TreeMap<>();
    private final Set<String> sentences = new HashSet<>();
    private final Set<String> refusals = new TreeSet<>();
    private int refused = 0;
    private int wrong = 0;

    /** One sentence of a promise, or of the terms that it rests on, and the calls that show it. */
    void tell(int promise, String sentence, String... calls) {
        runs.merge(promise, 1, Integer::sum);
        if (!sentences.add(promise + sentence)) {
            fault(promise, sentence, "is told twice");
        }
        Barrehouse x = new Barrehouse();
        List<Call> changes = new ArrayList<>();
        List<Call> all = Call.all(String.join(";", calls));
        if (all.size() > MOST_CALLS) {
            fault(promise, sentence, "takes " + all.size() + " calls");
        }
        for (Call call : all) {
            Object got = call.on(x);
            if (!call.isDue(got)) {
                fault(promise, sentence, call.text + ", answered " + got);
                return;
            }
            if (got instanceof Class<?> thrown) {
                refused++;
                refusals.add(call.method.getName() + " " + thrown.getSimpleName());
                lookBehind(promise, sentence, changes, call);
            } else if (call.isChange()) {
                changes.add(call);
            }
        }
    }

    /** A call that only asks leaves everything as it was. */
    void tellAsking(int promise, String ahead, String call) {
        runs.merge(promise, 1, Integer::sum);
        List<Call> changes = Call.all(ahead);
        for (Call asking : Call.all(call)) {
            lookBehind(promise, "only asks", changes, asking);
        }
    }

    /** Each of these promises had a run. */
    void mustTell(int firstPromise, int lastPromise) {
        for (int promise = firstPromise; promise <= lastPromise; promise++) {
            if (!runs.containsKey(promise)) {
                fault(promise, "all", "has no run");
            }
        }
    }

    /** Each exception that these methods list was due somewhere. */
    void mustRefuse(String... methods) {
        for (String name : methods) {
            for (Class<?> listed : Call.exceptionsOf(name)) {
                if (!refusals.contains(name + " " + listed.getSimpleName())) {
                    fault(0, name, "was never refused by " + listed.getSimpleName());
                }
            }
        }
    }

    void finish() {
        int all = 0;
        for (int count : runs.values()) {
            all += count;
        }
        System.out.println(all + " runs for promises " + runs.keySet() + " with " + refused + " refused calls, "
                + wrong + " wrong");
        if (wrong != 0 || all == 0) {
            System.exit(1);
        }
    }

    /** A text, as often as told, with its place, from 0 on, for each % in it. */
    static String times(int times, String calls) {
        StringBuilder text = new StringBuilder();
        for (int time = 0; time < times; time++) {
            text.append(calls.replace("%", "" + time)).append(";");
        }
        return text.toString();
    }

    private void lookBehind(int promise, String sentence, List<Call> changes, Call call) {
        if (!Aftermath.isWithoutTrace(changes, call)) {
            fault(promise, sentence, call.text + " changed something");
        }
    }

    private void fault(int promise, String sentence, String what) {
        wrong++;
        System.out.println("promise " + promise + ", " + sentence + ": " + what);
    }
}
