import java.util.ArrayDeque;
import java.util.ArrayList;
import java.util.Arrays;
import java.util.Comparator;
import java.util.HashMap;
import java.util.HashSet;
import java.util.LinkedHashMap;
import java.util.List;
import java.util.Map;
import java.util.NoSuchElementException;
import java.util.Set;

/** The document once more, written as plainly and as unlike the class as can be, to compare both. */
final class PlainCompany {
    record Item(int step, boolean mirrored) { }

    record PhysicalPair(int[] left, int from) { }

    private final List<int[]> steps = new ArrayList<>();
    private final List<List<Item>> phrases = new ArrayList<>();
    private final List<int[]> dancers = new ArrayList<>();
    private final List<Set<Integer>> hurtDays = new ArrayList<>();
    private final List<List<PhysicalPair>> shoes = new ArrayList<>();
    private final List<List<Integer>> works = new ArrayList<>();
    private final List<int[]> roles = new ArrayList<>();
    private final Map<Integer, Integer> partners = new HashMap<>();
    private final Map<String, Integer> hours = new HashMap<>();
    private final List<int[]> evenings = new ArrayList<>();
    private final List<Map<Integer, Integer>> castings = new ArrayList<>();
    private final Set<Integer> danced = new HashSet<>();
    private int today;
    private int bill;

    /** How many there are of each kind, for whoever draws numbers. */
    int size(String kind) {
        return switch (kind) {
            case "steps" -> steps.size();
            case "phrases" -> phrases.size();
            case "dancers" -> dancers.size();
            case "works" -> works.size();
            case "roles" -> roles.size();
            default -> evenings.size();
        };
    }

    List<Integer> rolesOn(int evening) {
        return in(evening, evenings) ? works.get(evenings.get(evening)[0]) : List.of();
    }

    boolean isJoined(int phrase, int step, boolean mirrored) {
        if (!in(phrase, phrases) || !in(step, steps) || phrases.get(phrase).isEmpty()) {
            return true;
        }
        return weight(phrase, true) == from(new Item(step, mirrored));
    }

    private static void index(boolean is) {
        if (!is) {
            throw new IndexOutOfBoundsException();
        }
    }

    private static void range(boolean is) {
        if (!is) {
            throw new IllegalArgumentException();
        }
    }

    private static void fit(boolean is) {
        if (!is) {
            throw new UnsupportedOperationException();
        }
    }

    private static void room(boolean is) {
        if (!is) {
            throw new IllegalStateException();
        }
    }

    private static void found(boolean is) {
        if (!is) {
            throw new NoSuchElementException();
        }
    }

    private static boolean in(int number, List<?> list) {
        return number >= 0 && number < list.size();
    }

    private static boolean between(int low, int number, int high) {
        return low <= number && number <= high;
    }

    private static char swap(char weight) {
        return "rlb".charAt("lrb".indexOf(weight));
    }

    private char from(Item item) {
        char weight = (char) steps.get(item.step)[0];
        return item.mirrored ? swap(weight) : weight;
    }

    private char to(Item item) {
        char weight = (char) steps.get(item.step)[1];
        return item.mirrored ? swap(weight) : weight;
    }

    private int counts(int phrase) {
        return phrases.get(phrase).stream().mapToInt(i -> steps.get(i.step)[2]).sum();
    }

    int step(char from, char to, int counts, int right, int forward) {
        range("lrb".indexOf(from) >= 0 && "lrb".indexOf(to) >= 0);
        range(between(1, counts, 8) && between(-3, right, 3) && between(-3, forward, 3));
        room(steps.size() < 16);
        steps.add(new int[] {from, to, counts, right, forward, 40, 200});
        return steps.size() - 1;
    }

    int tempi(int step, int least, int greatest) {
        index(in(step, steps));
        range(40 <= least && least <= greatest && greatest <= 200);
        int before = steps.get(step)[5];
        steps.get(step)[5] = least;
        steps.get(step)[6] = greatest;
        return before;
    }

    int phrase() {
        room(phrases.size() < 12);
        phrases.add(new ArrayList<>());
        return phrases.size() - 1;
    }

    int add(int phrase, int step, boolean mirrored) {
        index(in(phrase, phrases) && in(step, steps));
        List<Item> items = phrases.get(phrase);
        Item item = new Item(step, mirrored);
        fit(items.isEmpty() || to(items.get(items.size() - 1)) == from(item));
        room(items.size() < 12);
        items.add(item);
        return counts(phrase);
    }

    int take(int phrase) {
        index(in(phrase, phrases));
        fit(!phrases.get(phrase).isEmpty());
        phrases.get(phrase).remove(phrases.get(phrase).size() - 1);
        return counts(phrase);
    }

    int mirror(int phrase) {
        index(in(phrase, phrases));
        room(phrases.size() < 12);
        List<Item> items = new ArrayList<>();
        phrases.get(phrase).forEach(i -> items.add(new Item(i.step, !i.mirrored)));
        phrases.add(items);
        return phrases.size() - 1;
    }

    char weight(int phrase, boolean end) {
        index(in(phrase, phrases));
        List<Item> items = phrases.get(phrase);
        found(!items.isEmpty());
        return end ? to(items.get(items.size() - 1)) : from(items.get(0));
    }

    private Set<Integer> allowed(int phrase) {
        Set<Integer> tempi = new HashSet<>();
        for (int tempo = 40; tempo <= 200; tempo++) {
            int now = tempo;
            if (phrases.get(phrase).stream().allMatch(
                    i -> between(steps.get(i.step)[5], now, steps.get(i.step)[6]))) {
                tempi.add(tempo);
            }
        }
        return tempi;
    }

    int tempo(int phrase, boolean least) {
        index(in(phrase, phrases));
        Set<Integer> tempi = allowed(phrase);
        found(!tempi.isEmpty());
        return tempi.stream().mapToInt(t -> least ? t : -t).min().orElse(0) * (least ? 1 : -1);
    }

    /** Where a phrase has come behind each count, with a last entry for all counts behind its end. */
    private int[][] path(int phrase) {
        int[][] path = new int[counts(phrase) + 1][2];
        int at = 0;
        for (Item item : phrases.get(phrase)) {
            int[] step = steps.get(item.step);
            for (int count = 1; count <= step[2]; count++) {
                path[at + count] = path[at].clone();
            }
            at += step[2];
            path[at][0] += item.mirrored ? -step[3] : step[3];
            path[at][1] += step[4];
        }
        return path;
    }

    int place(int phrase, int counts, boolean forward) {
        index(in(phrase, phrases));
        range(counts >= 0);
        int[][] path = path(phrase);
        return path[Math.min(counts, path.length - 1)][forward ? 1 : 0];
    }

    int meets(int phrase, int other, int right, int forward) {
        index(in(phrase, phrases) && in(other, phrases));
        for (int counts = 0; counts <= 200; counts++) {
            boolean isRight = place(phrase, counts, false) == (long) place(other, counts, false) + right;
            if (isRight && place(phrase, counts, true) == (long) place(other, counts, true) + forward) {
                return counts;
            }
        }
        throw new NoSuchElementException();
    }

    int changes(int phrase, int other) {
        index(in(phrase, phrases) && in(other, phrases));
        return changes(phrases.get(phrase), phrases.get(other), new HashMap<>());
    }

    private int changes(List<Item> one, List<Item> two, Map<Integer, Integer> known) {
        if (one.isEmpty() || two.isEmpty()) {
            return one.size() + two.size();
        }
        int key = one.size() * 100 + two.size();
        if (!known.containsKey(key)) {
            List<Item> lessOne = one.subList(1, one.size());
            List<Item> lessTwo = two.subList(1, two.size());
            int best = changes(lessOne, lessTwo, known) + (one.get(0).equals(two.get(0)) ? 0 : 1);
            best = Math.min(best, 1 + changes(lessOne, two, known));
            best = Math.min(best, 1 + changes(one, lessTwo, known));
            known.put(key, best);
        }
        return known.get(key);
    }

    int bridge(int phrase, int other) {
        index(in(phrase, phrases) && in(other, phrases));
        fit(!phrases.get(phrase).isEmpty() && !phrases.get(other).isEmpty());
        Map<Character, Integer> far = new LinkedHashMap<>();
        ArrayDeque<Character> open = new ArrayDeque<>();
        far.put(weight(phrase, true), 0);
        open.add(weight(phrase, true));
        while (!open.isEmpty()) {
            char now = open.poll();
            for (int step = 0; step < steps.size(); step++) {
                for (boolean mirrored : new boolean[] {false, true}) {
                    Item item = new Item(step, mirrored);
                    if (from(item) == now && !far.containsKey(to(item))) {
                        far.put(to(item), far.get(now) + 1);
                        open.add(to(item));
                    }
                }
            }
        }
        found(far.containsKey(weight(other, false)));
        return far.get(weight(other, false));
    }

    int dancer(int rank, int height, int stamina) {
        range(between(0, rank, 5) && between(150, height, 200) && between(10, stamina, 99));
        room(dancers.size() < 12);
        dancers.add(new int[] {rank, height, stamina, 0});
        hurtDays.add(new HashSet<>());
        shoes.add(new ArrayList<>());
        return dancers.size() - 1;
    }

    int promote(int dancer) {
        index(in(dancer, dancers));
        fit(dancers.get(dancer)[0] < 5);
        return ++dancers.get(dancer)[0];
    }

    int hurt(int dancer, int days) {
        index(in(dancer, dancers));
        range(between(1, days, 99));
        for (int day = today; day < today + days; day++) {
            hurtDays.get(dancer).add(day);
        }
        int well = today;
        while (hurtDays.get(dancer).contains(well)) {
            well++;
        }
        return well;
    }

    int load(int dancer) {
        index(in(dancer, dancers));
        return dancers.get(dancer)[3];
    }

    int work() {
        room(works.size() < 4);
        works.add(new ArrayList<>());
        return works.size() - 1;
    }

    int role(int work, int phrase, int rank, int low, int high, int weight) {
        index(in(work, works) && in(phrase, phrases));
        range(between(0, rank, 5) && between(150, low, 200) && between(low, high, 200) && between(0, weight, 9));
        fit(evenings.stream().noneMatch(e -> e[0] == work));
        room(works.get(work).size() < 4);
        works.get(work).add(roles.size());
        roles.add(new int[] {work, phrase, rank, low, high, weight});
        return roles.size() - 1;
    }

    int partner(int role, int other) {
        index(in(role, roles) && in(other, roles));
        range(role != other && roles.get(role)[0] == roles.get(other)[0]);
        fit(!partners.containsKey(role) && !partners.containsKey(other));
        partners.put(role, other);
        partners.put(other, role);
        return (int) works.get(roles.get(role)[0]).stream().filter(partners::containsKey).count() / 2;
    }

    private int told(String key) {
        return hours.getOrDefault(key, 0);
    }

    private static String pairKey(int dancer, int other) {
        return "pair " + Math.min(dancer, other) + " " + Math.max(dancer, other);
    }

    private int missing(int dancer, int role) {
        int due = 2 * phrases.get(roles.get(role)[1]).size();
        return Math.max(0, due - told("role " + dancer + " " + role));
    }

    private int missingPair(int dancer, int other) {
        return Math.max(0, 5 - told(pairKey(dancer, other)));
    }

    int learn(int dancer, int role, int hours) {
        index(in(dancer, dancers) && in(role, roles));
        range(between(1, hours, 50));
        this.hours.merge("role " + dancer + " " + role, hours, Integer::sum);
        return missing(dancer, role);
    }

    boolean isLearnt(int dancer, int role) {
        index(in(dancer, dancers) && in(role, roles));
        return missing(dancer, role) == 0;
    }

    int rehearse(int dancer, int other, int hours) {
        index(in(dancer, dancers) && in(other, dancers));
        range(dancer != other && between(1, hours, 50));
        return this.hours.merge(pairKey(dancer, other), hours, Integer::sum);
    }

    int evening(int work, int day, int tempo) {
        index(in(work, works));
        range(between(today, day, 999) && between(40, tempo, 200));
        fit(!works.get(work).isEmpty());
        room(evenings.size() < 11);
        evenings.add(new int[] {work, day, tempo});
        castings.add(new HashMap<>());
        return evenings.size() - 1;
    }

    private void roleOf(int evening, int role) {
        index(in(evening, evenings) && works.get(evenings.get(evening)[0]).contains(role));
    }

    /** All letters that bar a dancer, in their order, were the casting of the evening as told. */
    private String allBars(int evening, int role, int dancer, Map<Integer, Integer> casting) {
        StringBuilder bars = new StringBuilder();
        int[] asked = roles.get(role);
        int[] person = dancers.get(dancer);
        int day = evenings.get(evening)[1];
        bars.append(danced.contains(evening) || day < today ? "d" : "");
        bars.append(hurtDays.get(dancer).contains(day) ? "i" : "");
        bars.append(person[0] < asked[2] ? "k" : "");
        bars.append(between(asked[3], person[1], asked[4]) ? "" : "h");
        bars.append(missing(dancer, role) > 0 ? "n" : "");
        bars.append(casting.entrySet().stream().anyMatch(
                c -> c.getKey() != role && c.getValue() == dancer) ? "o" : "");
        Integer other = casting.get(partners.getOrDefault(role, -1));
        bars.append(other != null && other != dancer && missingPair(dancer, other) > 0 ? "p" : "");
        boolean tired = false;
        for (int number = 0; number < evenings.size(); number++) {
            for (Map.Entry<Integer, Integer> told : castings.get(number).entrySet()) {
                tired |= number != evening && Math.abs(evenings.get(number)[1] - day) <= 1
                        && told.getValue() == dancer && roles.get(told.getKey())[5] >= 6;
            }
        }
        return bars.append(asked[5] >= 6 && tired ? "r" : "").toString();
    }

    char bars(int evening, int role, int dancer) {
        roleOf(evening, role);
        index(in(dancer, dancers));
        return (allBars(evening, role, dancer, castings.get(evening)) + "-").charAt(0);
    }

    int cast(int evening, int role, int dancer) {
        fit(bars(evening, role, dancer) == '-' & castings.get(evening).getOrDefault(role, -1) != dancer);
        Integer before = castings.get(evening).put(role, dancer);
        return before == null ? -1 : before;
    }

    int drop(int evening, int role) {
        roleOf(evening, role);
        fit(castings.get(evening).containsKey(role) && !danced.contains(evening));
        return castings.get(evening).remove(role);
    }

    int who(int evening, int role) {
        roleOf(evening, role);
        found(castings.get(evening).containsKey(role));
        return castings.get(evening).get(role);
    }

    boolean isReady(int evening) {
        index(in(evening, evenings));
        if (danced.contains(evening)) {
            return true;
        }
        for (int role : works.get(evenings.get(evening)[0])) {
            Integer dancer = castings.get(evening).get(role);
            if (dancer == null || bars(evening, role, dancer) != '-') {
                return false;
            }
            int phrase = roles.get(role)[1];
            if (!phrases.get(phrase).isEmpty() && !allowed(phrase).contains(evenings.get(evening)[2])) {
                return false;
            }
        }
        return true;
    }

    /** All casts in which nothing but the letters would bar, in their order, each with its hours at last. */
    private List<int[]> allCasts(int evening, String letters) {
        List<int[]> all = new ArrayList<>();
        fillCasts(evening, letters, new ArrayList<>(), all);
        return all;
    }

    private void fillCasts(int evening, String letters, List<Integer> begun, List<int[]> all) {
        List<Integer> asked = works.get(evenings.get(evening)[0]);
        if (begun.size() == asked.size()) {
            Map<Integer, Integer> casting = new HashMap<>();
            for (int at = 0; at < asked.size(); at++) {
                casting.put(asked.get(at), begun.get(at));
            }
            int needed = 0;
            for (int role : asked) {
                for (char bar : allBars(evening, role, casting.get(role), casting).toCharArray()) {
                    if (letters.indexOf(bar) < 0) {
                        return;
                    }
                }
                needed += missing(casting.get(role), role);
                int partner = partners.getOrDefault(role, -1);
                needed += partner > role ? missingPair(casting.get(role), casting.get(partner)) : 0;
            }
            int[] cast = begun.stream().mapToInt(d -> d).toArray();
            cast = Arrays.copyOf(cast, cast.length + 1);
            cast[cast.length - 1] = needed;
            all.add(cast);
            return;
        }
        for (int dancer = 0; dancer < dancers.size(); dancer++) {
            if (!begun.contains(dancer)) {
                begun.add(dancer);
                fillCasts(evening, letters, begun, all);
                begun.remove(begun.size() - 1);
            }
        }
    }

    int casts(int evening) {
        index(in(evening, evenings));
        return allCasts(evening, "").size();
    }

    private int[] leastCast(int evening) {
        int[] least = null;
        for (int[] cast : allCasts(evening, "np")) {
            if (least == null || cast[cast.length - 1] < least[least.length - 1]) {
                least = cast;
            }
        }
        found(least != null);
        return least;
    }

    int least(int evening) {
        index(in(evening, evenings));
        int[] least = leastCast(evening);
        return least[least.length - 1];
    }

    int leastFor(int evening, int role) {
        roleOf(evening, role);
        return leastCast(evening)[works.get(evenings.get(evening)[0]).indexOf(role)];
    }

    private int worn(int role) {
        return (int) Math.ceil(counts(roles.get(role)[1]) / 4.0);
    }

    int dance(int evening) {
        index(in(evening, evenings));
        fit(isReady(evening) && !danced.contains(evening) && evenings.get(evening)[1] == today);
        castings.get(evening).forEach((role, dancer) -> fit(minutes(dancer) >= worn(role)));
        int hurt = 0;
        for (Map.Entry<Integer, Integer> told : castings.get(evening).entrySet()) {
            int[] dancer = dancers.get(told.getValue());
            for (int minute = 0; minute < worn(told.getKey()); minute++) {
                shoes.get(told.getValue()).stream().filter(p -> p.from <= today && p.left[0] > 0)
                        .min(Comparator.comparingInt(p -> p.left[0])).orElseThrow().left[0]--;
            }
            bill += 50 * (1 + dancer[0]);
            dancer[3] += roles.get(told.getKey())[5];
            for (int day = 1; day <= dancer[3] - dancer[2]; day++) {
                hurtDays.get(told.getValue()).add(today + day);
            }
            hurt += dancer[3] > dancer[2] ? 1 : 0;
        }
        danced.add(evening);
        return hurt;
    }

    int days(int days) {
        range(between(1, days, 99));
        room(today + days <= 999);
        for (int day = 0; day < days; day++) {
            today++;
            dancers.forEach(d -> d[3] = Math.max(0, d[3] - 5));
        }
        return today;
    }

    int day() {
        return today;
    }

    int shoes(int dancer, int pairs, int hardness, int days) {
        index(in(dancer, dancers));
        range(between(1, pairs, 9) && between(1, hardness, 5) && between(0, days, 99));
        for (int pair = 0; pair < pairs; pair++) {
            shoes.get(dancer).add(new PhysicalPair(new int[] {10 * hardness}, today + days));
            bill += 20 + 2 * hardness;
        }
        return (int) shoes.get(dancer).stream().filter(p -> p.left[0] > 0).count();
    }

    int minutes(int dancer) {
        index(in(dancer, dancers));
        return shoes.get(dancer).stream().filter(p -> p.from <= today).mapToInt(p -> p.left[0]).sum();
    }

    int bill() {
        return bill;
    }

    long checksum() {
        List<Long> numbers = new ArrayList<>();
        for (int phrase = 0; phrase < phrases.size(); phrase++) {
            numbers.add((long) counts(phrase));
        }
        for (int dancer = 0; dancer < dancers.size(); dancer++) {
            numbers.add((long) load(dancer));
            numbers.add((long) minutes(dancer));
        }
        for (int evening = 0; evening < evenings.size(); evening++) {
            for (int role : works.get(evenings.get(evening)[0])) {
                numbers.add((long) castings.get(evening).getOrDefault(role, -1));
            }
        }
        numbers.add((long) bill);
        long sum = 7;
        for (long number : numbers) {
            sum = 31 * sum + number;
        }
        return sum;
    }

    float castShare() {
        found(!evenings.isEmpty());
        int all = evenings.stream().mapToInt(e -> works.get(e[0]).size()).sum();
        return (float) castings.stream().mapToInt(Map::size).sum() / (float) all;
    }

    double meanLoad() {
        found(!dancers.isEmpty());
        return (double) dancers.stream().mapToInt(d -> d[3]).sum() / (double) dancers.size();
    }

    boolean isSound() {
        return true;
    }
}
