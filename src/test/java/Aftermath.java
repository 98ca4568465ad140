import java.util.ArrayList;
import java.util.HashMap;
import java.util.List;
import java.util.Map;

/** All that later calls can tell of what earlier ones did, in parts that each begin on a new object. */
final class Aftermath {
    private static final int MOST_CALLS = 512;
    private static final List<List<Call>> PARTS = parts();
    private static final Map<String, List<Object>> known = new HashMap<>();

    private Aftermath() {
    }

    /** Whether a call behind others leaves no trace: whatever is called then is answered as without it. */
    static boolean isWithoutTrace(List<Call> ahead, Call call) {
        List<Call> with = new ArrayList<>(ahead);
        with.add(call);
        StringBuilder key = new StringBuilder();
        ahead.forEach(told -> key.append(told.text).append(';'));
        return known.computeIfAbsent(key.toString(), told -> answersBehind(ahead)).equals(answersBehind(with));
    }

    private static List<Object> answersBehind(List<Call> ahead) {
        List<Object> answers = new ArrayList<>();
        for (List<Call> part : PARTS) {
            if (ahead.size() + part.size() > MOST_CALLS) {
                throw new AssertionError("more calls than an object is made for: " + ahead.size() + part.get(0).text);
            }
            Barrehouse x = new Barrehouse();
            ahead.forEach(call -> call.on(x));
            part.forEach(call -> answers.add(call.on(x)));
        }
        return answers;
    }

    private static List<List<Call>> parts() {
        List<List<Call>> parts = new ArrayList<>();
        parts.add(Call.all("day(); bill(); checksum(); castShare(); meanLoad(); isSound(); phrase(); work();"
                + "dancer(0, 170, 50); step('b', 'b', 1, 0, 0); evening(0, 0, 100); evening(0, 999, 100); days(99)"));
        parts.add(Call.all(phrases()));
        parts.add(Call.all(itemsOf(0, 6)));
        parts.add(Call.all(itemsOf(6, 12)));
        parts.add(Call.all(stepsByAnEmptyPhrase()));
        parts.add(Call.all(dancers()));
        parts.add(Call.all(hours()));
        parts.add(Call.all(works()));
        parts.add(Call.all(evenings()));
        parts.add(Call.all(bars()));
        parts.add(Call.all(dancing()));
        return parts;
    }

    private static String phrases() {
        StringBuilder calls = new StringBuilder();
        for (int number = 0; number <= 12; number++) {
            calls.append("weight(%d, true); weight(%d, false); tempo(%d, true); tempo(%d, false);"
                    .replace("%d", "" + number));
            calls.append("changes(0, %d); bridge(0, %d); bridge(%d, 1); meets(0, %d, 1, 0);"
                    .replace("%d", "" + number));
        }
        return calls + "mirror(0); mirror(1)";
    }

    private static String itemsOf(int first, int end) {
        StringBuilder calls = new StringBuilder();
        for (int number = first; number < end; number++) {
            for (int items = 0; items < 13; items++) {
                calls.append("place(%d, MAX, false); place(%d, MAX, true); take(%d);".replace("%d", "" + number));
            }
        }
        return calls.toString();
    }

    private static String stepsByAnEmptyPhrase() {
        StringBuilder calls = new StringBuilder();
        for (int items = 0; items < 12; items++) {
            calls.append("take(0);");
        }
        for (int number = 0; number <= 16; number++) {
            calls.append("add(0, ").append(number).append(", false); weight(0, false); weight(0, true);"
                    + "tempo(0, true); tempo(0, false); place(0, 8, false); place(0, 8, true); take(0);");
            calls.append("tempi(").append(number).append(", 40, 200);");
        }
        return calls.toString();
    }

    private static String dancers() {
        StringBuilder calls = new StringBuilder();
        for (int number = 0; number <= 12; number++) {
            calls.append("load(%d); minutes(%d); promote(%d); hurt(%d, 1); shoes(%d, 1, 1, 0);"
                    .replace("%d", "" + number));
        }
        calls.append("days(1);");
        for (int number = 0; number <= 12; number++) {
            calls.append("load(%d); minutes(%d); promote(%d);".replace("%d", "" + number));
        }
        calls.append("days(99);");
        for (int number = 0; number <= 12; number++) {
            calls.append("load(%d); minutes(%d);".replace("%d", "" + number));
        }
        return calls.toString();
    }

    private static String hours() {
        StringBuilder calls = new StringBuilder();
        for (int dancer = 0; dancer <= 4; dancer++) {
            for (int role = 0; role <= 16; role++) {
                calls.append("isLearnt(").append(dancer).append(", ").append(role).append(");");
                calls.append("learn(").append(dancer).append(", ").append(role).append(", 1);");
            }
        }
        for (int dancer = 0; dancer < 12; dancer++) {
            for (int other = dancer + 1; other < 12; other++) {
                calls.append("rehearse(").append(dancer).append(", ").append(other).append(", 1);");
            }
        }
        return calls.toString();
    }

    private static String works() {
        StringBuilder calls = new StringBuilder();
        for (int role = 0; role < 16; role++) {
            for (int other = role + 1; other < 16; other++) {
                calls.append("partner(").append(role).append(", ").append(other).append(");");
            }
        }
        for (int work = 0; work <= 4; work++) {
            calls.append("4 * role(").append(work).append(", 0, 0, 150, 200, 0);");
            calls.append("evening(").append(work).append(", 999, 100);");
        }
        return calls.toString();
    }

    private static String evenings() {
        StringBuilder calls = new StringBuilder();
        for (int number = 0; number <= 11; number++) {
            calls.append("isReady(%d); casts(%d); least(%d);".replace("%d", "" + number));
            for (int role = 0; role < 6; role++) {
                calls.append("who(").append(number).append(", ").append(role).append(");");
                calls.append("leastFor(").append(number).append(", ").append(role).append(");");
                calls.append("drop(").append(number).append(", ").append(role).append(");");
            }
        }
        return calls.toString();
    }

    private static String bars() {
        StringBuilder calls = new StringBuilder();
        for (int number = 0; number < 11; number++) {
            for (int role = 0; role < 5; role++) {
                for (int dancer = 0; dancer < 4; dancer++) {
                    calls.append("bars(").append(number).append(", ").append(role).append(", ")
                            .append(dancer).append(");");
                }
            }
        }
        return calls.toString();
    }

    private static String dancing() {
        StringBuilder calls = new StringBuilder();
        for (int day = 0; day < 3; day++) {
            for (int number = 0; number < 11; number++) {
                calls.append("dance(").append(number).append(");");
            }
            calls.append("checksum(); bill(); hurt(0, 1); hurt(1, 1); hurt(2, 1); days(1);");
        }
        return calls.toString();
    }
}
