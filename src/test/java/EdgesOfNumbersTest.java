/** The numbers of all calls: the least and the greatest ones, those just outside, and which exception is ahead. */
public final class EdgesOfNumbersTest {
    private static final Edges edges = new Edges();
    private static final int MIN = Integer.MIN_VALUE;
    private static final int MAX = Integer.MAX_VALUE;

    /** 3 steps, phrases (the last one without items), dancers and works, 5 roles, and 2 evenings. */
    private static final String SMALL = """
            step('l', 'r', 2, 1, 0); step('r', 'b', 3, 0, 1); step('b', 'b', 1, -3, 3);
            phrase(); add(0, 0, false); add(0, 1, false); phrase(); add(1, 2, false); phrase();
            dancer(0, 150, 10); dancer(3, 170, 50); dancer(5, 200, 99); work(); work(); work();
            role(0, 0, 0, 150, 200, 0); role(1, 2, 0, 150, 200, 0); role(0, 1, 0, 150, 200, 6);
            role(2, 1, 0, 150, 200, 0); role(2, 2, 0, 150, 200, 0); partner(0, 2);
            evening(0, 0, 100); evening(1, 1, 100); shoes(0, 1, 1, 0); shoes(1, 1, 1, 0);
            learn(0, 0, 4); learn(1, 2, 2); rehearse(0, 1, 5); cast(0, 0, 0); cast(0, 2, 1);
            """;

    private static final String STEPS_FULL = Edges.times(16, "step('b', 'b', 1, 0, 0)");
    private static final String DANCERS_FULL = Edges.times(12, "dancer(0, 170, 50)");

    public static void main(String[] args) {
        indexesOfSteps();
        indexesOfDancers();
        indexesOfEvenings();
        indexesOfWhatIsFull();
        rangesOfSteps();
        rangesOfDancers();
        rangesOfEvenings();
        ordersOfSteps();
        ordersOfDancers();
        ordersOfRoles();
        ordersOfEvenings();
        ordersOfShoes();
        asking();
        edges.mustRefuse("step", "tempi", "add", "mirror", "place", "bridge", "dancer", "hurt", "role", "partner",
                "learn", "rehearse", "evening", "cast", "drop", "who", "least", "leastFor", "days", "shoes");
        edges.finish();
    }

    private static void indexesOfSteps() {
        index(3, "tempi(%, 60, 90)", 3);
        index(5, "add(%, 2, false)", 3);
        index(5, "add(1, %, true)", 3);
        index(6, "take(%)", 3);
        index(7, "mirror(%)", 3);
        index(8, "weight(%, true)", 3);
        index(8, "weight(%, false)", 3);
        index(9, "tempo(%, true)", 3);
        index(9, "tempo(%, false)", 3);
        index(10, "place(%, 0, true)", 3);
        index(10, "place(%, 0, false)", 3);
        index(11, "meets(%, 0, 0, 0)", 3);
        index(11, "meets(0, %, 0, 0)", 3);
        index(12, "changes(%, 0)", 3);
        index(12, "changes(0, %)", 3);
        index(13, "bridge(%, 1)", 3);
        index(13, "bridge(1, %)", 3);
        accepted(3, "tempi(2, 60, 90) = 40");
        accepted(5, "add(2, 2, true) = 1");
        accepted(6, "take(0) = 2");
        accepted(7, "mirror(2) = 3");
        accepted(9, "tempo(2, true) = 40");
        accepted(10, "place(2, 0, true) = 0");
        accepted(11, "meets(2, 0, 0, 0) = 0; meets(0, 2, 0, 0) = 0");
        accepted(12, "changes(2, 0) = 2; changes(0, 2) = 2");
        accepted(13, "bridge(1, 1) = 0; bridge(0, 1) = 0");
    }

    private static void indexesOfDancers() {
        index(15, "promote(%)", 3);
        index(16, "hurt(%, 1)", 3);
        index(17, "load(%)", 3);
        index(19, "role(%, 0, 0, 150, 200, 0)", 3);
        index(19, "role(2, %, 0, 150, 200, 0)", 3);
        index(20, "partner(%, 4)", 5);
        index(20, "partner(4, %)", 5);
        index(21, "learn(%, 0, 1)", 3);
        index(21, "learn(0, %, 1)", 5);
        index(22, "isLearnt(%, 0)", 3);
        index(22, "isLearnt(0, %)", 5);
        index(23, "rehearse(%, 0, 1)", 3);
        index(23, "rehearse(0, %, 1)", 3);
        accepted(15, "promote(0) = 1");
        accepted(16, "hurt(2, 1) = 1; hurt(0, 1) = 1");
        accepted(17, "load(2) = 0; load(0) = 0");
        accepted(19, "role(2, 2, 0, 150, 200, 0) = 5; role(2, 0, 0, 150, 200, 0) = 6");
        accepted(20, "partner(4, 3) = 1");
        accepted(20, "partner(3, 4) = 1");
        accepted(21, "learn(2, 4, 1) = 0; learn(0, 0, 1) = 0; learn(2, 0, 1) = 3");
        accepted(22, "isLearnt(2, 4) = true; isLearnt(0, 0) = true; isLearnt(2, 0) = false");
        accepted(23, "rehearse(2, 0, 1) = 1; rehearse(0, 2, 1) = 2");
    }

    private static void indexesOfEvenings() {
        index(24, "evening(%, 0, 100)", 3);
        String[] onRoles = {"bars(0, %, 0)", "cast(0, %, 2)", "drop(0, %)", "who(0, %)", "leastFor(0, %)"};
        int[] promises = {25, 26, 27, 28, 32};
        for (int at = 0; at < onRoles.length; at++) {
            index(promises[at], onRoles[at], 5);
            // Roles of other works: one between the own ones, those behind them, and one with an evening.
            for (int other : new int[] {1, 3, 4}) {
                refused(promises[at], SMALL, onRoles[at].replace("%", "" + other), Edges.INDEX);
            }
            String onEvenings = onRoles[at].replace("(0, %", "(%, 0");
            index(promises[at], onEvenings, 2);
        }
        index(25, "bars(0, 0, %)", 3);
        index(26, "cast(0, 0, %)", 3);
        index(29, "isReady(%)", 2);
        index(30, "casts(%)", 2);
        index(31, "least(%)", 2);
        index(33, "dance(%)", 2);
        index(36, "shoes(%, 1, 1, 0)", 3);
        index(37, "minutes(%)", 3);
        accepted(24, "evening(2, 0, 100) = 2; evening(0, 0, 100) = 3");
        accepted(25, "bars(1, 1, 2) = -; bars(0, 0, 0) = -; bars(0, 2, 0) = n");
        accepted(26, "cast(1, 1, 2) = -1; cast(1, 1, 0) = 2");
        accepted(27, "drop(0, 2) = 1; drop(0, 0) = 0");
        accepted(28, "who(0, 2) = 1; who(0, 0) = 0");
        accepted(29, "isReady(1) = false; isReady(0) = true");
        accepted(30, "casts(1) = 3; casts(0) = 1");
        accepted(31, "least(1) = 0; least(0) = 0");
        accepted(32, "leastFor(1, 1) = 0; leastFor(0, 0) = 0; leastFor(0, 2) = 1");
        accepted(33, "dance(0) = 0; days(1); cast(1, 1, 2); dance(1) = 0");
        accepted(36, "shoes(2, 1, 1, 0) = 1; shoes(0, 1, 1, 0) = 2");
        accepted(37, "minutes(2) = 0; minutes(0) = 10");
    }

    /** The number behind the last one is none when all are there, too. */
    private static void indexesOfWhatIsFull() {
        String phrases = "step('b', 'b', 1, 0, 0);" + Edges.times(12, "phrase()");
        refused(3, STEPS_FULL, "tempi(16, 60, 90)", Edges.INDEX);
        refused(5, STEPS_FULL + "phrase();", "add(0, 16, false)", Edges.INDEX);
        refused(5, phrases, "add(12, 0, false)", Edges.INDEX);
        refused(6, phrases, "take(12)", Edges.INDEX);
        refused(9, phrases, "tempo(12, true)", Edges.INDEX);
        refused(12, phrases, "changes(11, 12)", Edges.INDEX);
        refused(15, DANCERS_FULL, "promote(12)", Edges.INDEX);
        refused(23, DANCERS_FULL, "rehearse(11, 12, 5)", Edges.INDEX);
        refused(36, DANCERS_FULL, "shoes(12, 1, 1, 0)", Edges.INDEX);
        refused(37, DANCERS_FULL, "minutes(12)", Edges.INDEX);
        String roles = "phrase(); dancer(0, 170, 50); 4 * work();"
                + Edges.times(4, "4 * role(%, 0, 0, 150, 200, 0)");
        refused(19, roles, "role(4, 0, 0, 150, 200, 0)", Edges.INDEX);
        refused(20, roles, "partner(15, 16)", Edges.INDEX);
        refused(21, roles, "learn(0, 16, 5)", Edges.INDEX);
        refused(24, roles, "evening(4, 0, 100)", Edges.INDEX);
        String evenings = roles + "11 * evening(3, 0, 100);";
        refused(25, evenings, "bars(11, 12, 0)", Edges.INDEX);
        refused(26, evenings, "cast(10, 16, 0)", Edges.INDEX);
        refused(28, evenings, "who(10, 11)", Edges.INDEX);
        refused(29, evenings, "isReady(11)", Edges.INDEX);
        edges.tell(25, "the greatest number of each", evenings + "bars(10, 15, 0) = -; cast(10, 15, 0) = -1;"
                + "who(10, 15) = 0; bars(10, 12, 0) = o; drop(10, 15) = 0");
        edges.tell(23, "the last dancers", DANCERS_FULL + "rehearse(11, 10, 5) = 5; rehearse(10, 11, 5) = 10;"
                + "rehearse(0, 11, 1) = 1; promote(11) = 1; shoes(11, 1, 1, 0) = 1; minutes(11) = 10");
        edges.tell(21, "the last role", roles + "learn(0, 15, 1) = 0; partner(15, 12) = 1; isLearnt(0, 15) = true");
    }

    private static void rangesOfSteps() {
        range(2, "", "step('l', 'r', %, 0, 0)", 1, 8);
        range(2, "", "step('l', 'r', 1, %, 0)", -3, 3);
        range(2, "", "step('l', 'r', 1, 0, %)", -3, 3);
        for (String weight : new String[] {"'l'", "'r'", "'b'"}) {
            edges.tell(2, "begins on " + weight, "step(" + weight + ", 'b', 1, 0, 0) = 0");
            edges.tell(2, "ends on " + weight, "step('b', " + weight + ", 1, 0, 0) = 0");
        }
        for (String weight : new String[] {
            "'a'", "'c'", "'k'", "'m'", "'q'", "'s'", "'B'", "'L'", "'R'", "'-'", "#0", "#32", "#65535", "#364"}) {
            refused(2, "", "step(" + weight + ", 'b', 1, 0, 0)", Edges.RANGE);
            refused(2, "", "step('b', " + weight + ", 1, 0, 0)", Edges.RANGE);
        }
        range(3, SMALL, "tempi(0, %, 200)", 40, 200);
        range(3, SMALL, "tempi(0, 40, %)", 40, 200);
        range(3, SMALL, "tempi(0, 100, %)", 100, 200);
        range(3, SMALL, "tempi(0, %, 100)", 40, 100);
        range(10, SMALL, "place(0, %, true)", 0, MAX);
        range(10, SMALL, "place(2, %, false)", 0, MAX);
    }

    private static void rangesOfDancers() {
        range(14, "", "dancer(%, 170, 50)", 0, 5);
        range(14, "", "dancer(0, %, 50)", 150, 200);
        range(14, "", "dancer(0, 170, %)", 10, 99);
        range(16, SMALL, "hurt(0, %)", 1, 99);
        range(19, SMALL, "role(2, 0, %, 150, 200, 0)", 0, 5);
        range(19, SMALL, "role(2, 0, 0, %, 200, 0)", 150, 200);
        range(19, SMALL, "role(2, 0, 0, 150, %, 0)", 150, 200);
        range(19, SMALL, "role(2, 0, 0, %, 170, 0)", 150, 170);
        range(19, SMALL, "role(2, 0, 0, 170, %, 0)", 170, 200);
        range(19, SMALL, "role(2, 0, 0, 150, 200, %)", 0, 9);
        range(21, SMALL, "learn(2, 0, %)", 1, 50);
        range(23, SMALL, "rehearse(0, 2, %)", 1, 50);
    }

    private static void rangesOfEvenings() {
        range(24, SMALL, "evening(0, %, 100)", 0, 999);
        range(24, SMALL, "evening(0, 0, %)", 40, 200);
        range(24, SMALL + "days(1);", "evening(0, %, 40)", 1, 999);
        range(24, SMALL + "10 * days(99); days(9);", "evening(0, %, 200)", 999, 999);
        range(34, SMALL, "days(%)", 1, 99);
        range(34, SMALL + "9 * days(99);", "days(%)", 1, 99);
        range(36, SMALL, "shoes(2, %, 1, 0)", 1, 9);
        range(36, SMALL, "shoes(2, 1, %, 0)", 1, 5);
        range(36, SMALL, "shoes(2, 1, 1, %)", 0, 99);
        range(36, SMALL + "10 * days(99); days(9);", "shoes(2, 1, 1, %)", 0, 99);
    }

    private static void ordersOfSteps() {
        for (String bad : new String[] {"'x', 'b', 1, 0, 0", "'b', 'x', 1, 0, 0", "'b', 'b', 0, 0, 0",
            "'b', 'b', 9, 0, 0", "'b', 'b', 1, 4, 0", "'b', 'b', 1, -4, 0", "'b', 'b', 1, 0, 4", "'b', 'b', 1, 0, -4"}) {
            refused(2, STEPS_FULL, "step(" + bad + ")", Edges.RANGE);
        }
        refused(2, STEPS_FULL, "step('b', 'b', 1, 0, 0)", Edges.FULL);
        refused(3, SMALL, "tempi(3, 39, 200)", Edges.INDEX);
        refused(3, SMALL, "tempi(-1, 40, 201)", Edges.INDEX);
        refused(3, SMALL, "tempi(3, 100, 99)", Edges.INDEX);
        String full = "step('b', 'b', 1, 0, 0); step('l', 'l', 1, 0, 0); phrase(); 12 * add(0, 0, false);";
        refused(5, full, "add(0, 2, false)", Edges.INDEX);
        refused(5, full, "add(0, -1, true)", Edges.INDEX);
        refused(5, full, "add(1, 0, false)", Edges.INDEX);
        refused(5, full, "add(0, 1, false)", Edges.UNFIT);
        refused(5, full, "add(0, 1, true)", Edges.UNFIT);
        refused(5, full, "add(0, 0, false)", Edges.FULL);
        refused(5, full, "add(0, 0, true)", Edges.FULL);
        String phrases = Edges.times(12, "phrase()");
        refused(7, phrases, "mirror(12)", Edges.INDEX);
        refused(7, phrases, "mirror(-1)", Edges.INDEX);
        refused(7, phrases, "mirror(11)", Edges.FULL);
        refused(10, SMALL, "place(3, -1, false)", Edges.INDEX);
        refused(10, SMALL, "place(-1, MIN, true)", Edges.INDEX);
        refused(13, SMALL, "bridge(2, 3)", Edges.INDEX);
        refused(13, SMALL, "bridge(3, 2)", Edges.INDEX);
        String none = "step('l', 'l', 1, 0, 0); phrase(); add(0, 0, false); phrase(); add(1, 0, true); phrase();";
        refused(13, none, "bridge(0, 2)", Edges.UNFIT);
        refused(13, none, "bridge(2, 0)", Edges.UNFIT);
        refused(13, none, "bridge(2, 2)", Edges.UNFIT);
        refused(13, none, "bridge(0, 1)", Edges.NONE);
    }

    private static void ordersOfDancers() {
        refused(14, DANCERS_FULL, "dancer(6, 170, 50)", Edges.RANGE);
        refused(14, DANCERS_FULL, "dancer(-1, 170, 50)", Edges.RANGE);
        refused(14, DANCERS_FULL, "dancer(0, 149, 50)", Edges.RANGE);
        refused(14, DANCERS_FULL, "dancer(0, 201, 50)", Edges.RANGE);
        refused(14, DANCERS_FULL, "dancer(0, 170, 9)", Edges.RANGE);
        refused(14, DANCERS_FULL, "dancer(0, 170, 100)", Edges.RANGE);
        refused(14, DANCERS_FULL, "dancer(0, 170, 50)", Edges.FULL);
        refused(16, SMALL, "hurt(3, 0)", Edges.INDEX);
        refused(16, SMALL, "hurt(-1, 100)", Edges.INDEX);
        refused(21, SMALL, "learn(3, 0, 0)", Edges.INDEX);
        refused(21, SMALL, "learn(0, 5, 51)", Edges.INDEX);
        refused(23, SMALL, "rehearse(3, 3, 5)", Edges.INDEX);
        refused(23, SMALL, "rehearse(-1, -1, 5)", Edges.INDEX);
        refused(23, SMALL, "rehearse(3, 0, 0)", Edges.INDEX);
        refused(23, SMALL, "rehearse(0, 3, 51)", Edges.INDEX);
        refused(23, SMALL, "rehearse(0, 0, 5)", Edges.RANGE);
        refused(23, SMALL, "rehearse(2, 2, 51)", Edges.RANGE);
        // The role 0 has a partner, the role 1 is of another work.
        refused(20, SMALL, "partner(0, 5)", Edges.INDEX);
        refused(20, SMALL, "partner(5, 0)", Edges.INDEX);
        refused(20, SMALL, "partner(5, 5)", Edges.INDEX);
        refused(20, SMALL, "partner(-1, -1)", Edges.INDEX);
        refused(20, SMALL, "partner(0, 0)", Edges.RANGE);
        refused(20, SMALL, "partner(0, 1)", Edges.RANGE);
        refused(20, SMALL, "partner(1, 0)", Edges.RANGE);
        refused(20, SMALL, "partner(1, 1)", Edges.RANGE);
        refused(20, SMALL, "partner(1, 3)", Edges.RANGE);
        refused(20, SMALL, "partner(0, 2)", Edges.UNFIT);
        refused(20, SMALL, "partner(2, 0)", Edges.UNFIT);
    }

    private static void ordersOfRoles() {
        String[] outOfRange = {"6, 150, 200, 0", "-1, 150, 200, 0", "0, 149, 200, 0", "0, 201, 201, 0",
            "0, 150, 201, 0", "0, 149, 149, 0", "0, 171, 170, 0", "0, 150, 200, 10", "0, 150, 200, -1"};
        String open = "phrase(); work(); 3 * role(0, 0, 0, 150, 200, 0);";
        String told = open + "evening(0, 0, 100);";
        String full = open + "role(0, 0, 0, 150, 200, 0);";
        String both = full + "evening(0, 0, 100);";
        String[] names = {"open", "told", "full", "both"};
        String[] companies = {open, told, full, both};
        for (int at = 0; at < companies.length; at++) {
            String company = companies[at];
            for (String bad : outOfRange) {
                refused(19, company, "role(0, 0, " + bad + ")", Edges.RANGE);
            }
            refused(19, company, "role(1, 0, 0, 150, 200, 0)", Edges.INDEX);
            refused(19, company, "role(0, 1, 0, 150, 200, 0)", Edges.INDEX);
            refused(19, company, "role(-1, 0, 6, 150, 200, 0)", Edges.INDEX);
            refused(19, company, "role(0, -1, 0, 150, 149, 10)", Edges.INDEX);
            refused(19, company, "role(1, 1, 0, 150, 201, 10)", Edges.INDEX);
            String answer = names[at].equals("open") ? " = 3;" : names[at].equals("full") ? Edges.FULL : Edges.UNFIT;
            edges.tell(19, "role of a work that is " + names[at], company, "role(0, 0, 0, 150, 200, 0)" + answer);
        }
    }

    private static void ordersOfEvenings() {
        // The work 1 has no roles.
        String room = "phrase(); work(); work(); role(0, 0, 0, 150, 200, 0); dancer(0, 170, 50);";
        String full = room + "11 * evening(0, 0, 100);";
        for (String company : new String[] {room, full}) {
            refused(24, company, "evening(2, 0, 39)", Edges.INDEX);
            refused(24, company, "evening(-1, -1, 100)", Edges.INDEX);
            refused(24, company, "evening(2, 0, 100)", Edges.INDEX);
            for (String bad : new String[] {"-1, 100", "1000, 100", "0, 39", "0, 201"}) {
                refused(24, company, "evening(1, " + bad + ")", Edges.RANGE);
                refused(24, company, "evening(0, " + bad + ")", Edges.RANGE);
            }
            refused(24, company, "evening(1, 0, 100)", Edges.UNFIT);
        }
        refused(24, full, "evening(0, 0, 100)", Edges.FULL);
        String danced = SMALL + "dance(0);";
        refused(26, danced, "cast(0, 0, 3)", Edges.INDEX);
        refused(26, danced, "cast(0, 1, 0)", Edges.INDEX);
        refused(26, danced, "cast(2, 0, 0)", Edges.INDEX);
        refused(26, danced, "cast(0, 0, 2)", Edges.UNFIT);
        refused(27, danced, "drop(0, 1)", Edges.INDEX);
        refused(27, danced, "drop(0, 5)", Edges.INDEX);
        refused(27, danced, "drop(2, 0)", Edges.INDEX);
        refused(27, danced, "drop(0, 0)", Edges.UNFIT);
        refused(28, danced, "who(1, 0)", Edges.INDEX);
        refused(28, danced, "who(1, 1)", Edges.NONE);
        refused(32, danced, "leastFor(0, 1)", Edges.INDEX);
        refused(32, danced, "leastFor(2, 0)", Edges.INDEX);
        refused(32, danced, "leastFor(0, 0)", Edges.NONE);
        refused(31, danced, "least(2)", Edges.INDEX);
        refused(31, danced, "least(0)", Edges.NONE);
    }

    private static void ordersOfShoes() {
        String last = "10 * days(99); days(9);";
        for (int bad : new int[] {0, -1, 100, MIN, MAX}) {
            refused(34, last, "days(" + bad + ")", Edges.RANGE);
        }
        refused(34, last, "days(1)", Edges.FULL);
        refused(36, SMALL, "shoes(3, 0, 1, 0)", Edges.INDEX);
        refused(36, SMALL, "shoes(-1, 1, 6, 0)", Edges.INDEX);
        refused(36, SMALL, "shoes(3, 1, 1, 100)", Edges.INDEX);
    }

    private static void asking() {
        String[] calls = {"weight(0, true)", "tempo(0, true)", "place(0, 2, false)", "meets(0, 1, 0, 0)",
            "changes(0, 1)", "bridge(0, 1)", "load(0)", "isLearnt(0, 0)", "bars(0, 0, 2)", "who(0, 0)", "isReady(0)",
            "casts(0); casts(1)", "least(0); least(1)", "leastFor(0, 2); leastFor(1, 1)", "day()", "minutes(0)",
            "bill()", "checksum()", "castShare()", "meanLoad()", "isSound()"};
        int[] promises = {8, 9, 10, 11, 12, 13, 17, 22, 25, 28, 29, 30, 31, 32, 35, 37, 38, 39, 40, 41, 42};
        for (int at = 0; at < calls.length; at++) {
            edges.tellAsking(promises[at], SMALL, calls[at]);
        }
    }

    private static void refused(int promise, String ahead, String call, String due) {
        edges.tell(promise, call + due + " behind " + ahead.hashCode(), ahead, call + due);
    }

    private static void accepted(int promise, String calls) {
        edges.tell(promise, calls, SMALL, calls);
    }

    /** The numbers just outside of 0 to the size, and the farthest ones. */
    private static void index(int promise, String call, int size) {
        for (int bad : new int[] {-1, size, MIN, MAX}) {
            refused(promise, SMALL, call.replace("%", "" + bad), Edges.INDEX);
        }
    }

    /** The least and the greatest number, those just outside, and the farthest ones. */
    private static void range(int promise, String ahead, String call, int low, int high) {
        String told = call + " of " + low + " to " + high + " behind " + ahead.hashCode();
        edges.tell(promise, "the least: " + told, ahead, call.replace("%", "" + low));
        edges.tell(promise, "the greatest: " + told, ahead, call.replace("%", "" + high));
        String[] bad = {"" + (low - 1), "" + (high + 1), "MIN", "MAX"};
        for (int at = 0; at < bad.length; at++) {
            boolean isOutside = high < MAX || at == 0 || at == 2;
            if (isOutside) {
                edges.tell(promise, bad[at] + " is outside: " + told, ahead, call.replace("%", bad[at]) + Edges.RANGE);
            }
        }
    }
}
