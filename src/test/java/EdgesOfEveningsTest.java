/** Promises 24 to 29, 34 and 35: each sentence on evenings and days that names a boundary case, by own runs. */
public final class EdgesOfEveningsTest {
    private static final Edges edges = new Edges();

    public static void main(String[] args) {
        evening();
        eveningDays();
        barsByAll();
        barsByDay();
        barsByPerson();
        barsByHours();
        barsByOthers();
        barsByRest();
        cast();
        castInPlace();
        drop();
        who();
        isReady();
        isReadyByTempo();
        days();
        edges.mustTell(24, 29);
        edges.mustTell(34, 35);
        edges.mustRefuse("days");
        edges.finish();
    }

    /** A work with a role of each weight, of a phrase without items, and dancers who suit all of them. */
    static String house(int dancers, int... weights) {
        StringBuilder calls = new StringBuilder("phrase(); work();");
        for (int weight : weights) {
            calls.append("role(0, 0, 0, 150, 200, ").append(weight).append(");");
        }
        return calls.append(Edges.times(dancers, "dancer(0, 170, 99)")).append("step('b', 'b', 4, 0, 0);").toString();
    }

    private static void evening() {
        String house = house(1, 0);
        edges.tell(24, "at most 11 are numbered from 0", house, Edges.times(11, "evening(0, 0, 100) = %"),
                "evening(0, 0, 100)" + Edges.FULL, "evening(0, 999, 40)" + Edges.FULL);
        edges.tell(24, "the eleventh is one like all", house, "10 * evening(0, 5, 100); evening(0, 0, 70) = 10;"
                + "bars(10, 0, 0) = -; cast(10, 0, 0) = -1; who(10, 0) = 0; isReady(10) = true; casts(10) = 1;"
                + "least(10) = 0; leastFor(10, 0) = 0; dance(10) = 0; bars(10, 0, 0) = d; bars(9, 0, 0) = -");
        edges.tell(24, "no room by evenings that are over", house, "11 * evening(0, 0, 100); days(1);"
                + "evening(0, 1, 100)" + Edges.FULL);
        edges.tell(24, "no room by evenings that were danced", house, "11 * evening(0, 0, 100); cast(0, 0, 0);"
                + "dance(0); evening(0, 0, 100)" + Edges.FULL);
        edges.tell(24, "the work has no roles", house, "work(); evening(1, 0, 100)" + Edges.UNFIT,
                "role(1, 0, 0, 150, 200, 0) = 1; evening(1, 0, 100) = 0");
        edges.tell(24, "a refused one has no number", house, "work(); evening(0, -1, 100)" + Edges.RANGE,
                "evening(0, 0, 201)" + Edges.RANGE, "evening(1, 0, 100)" + Edges.UNFIT, "evening(0, 0, 100) = 0");
        edges.tell(24, "nobody is cast at first", house(1, 0, 0, 0, 0), "evening(0, 0, 100); castShare() = 0.0;",
                Edges.times(4, "who(0, %)" + Edges.NONE));
        edges.tell(24, "two of one work on one day", house, "evening(0, 3, 100) = 0; evening(0, 3, 100) = 1");
        edges.tell(24, "the fourth work", "phrase(); 4 * work(); role(3, 0, 0, 150, 200, 0) = 0;"
                + "evening(3, 0, 100) = 0; evening(2, 0, 100)" + Edges.UNFIT);
    }

    private static void eveningDays() {
        String house = house(1, 0);
        edges.tell(24, "from today on: today", house, "evening(0, 0, 100) = 0; days(5); evening(0, 5, 100) = 1;"
                + "bars(1, 0, 0) = -; bars(0, 0, 0) = d");
        edges.tell(24, "from today on: not yesterday", house, "evening(0, -1, 100)" + Edges.RANGE, "days(5);"
                + "evening(0, 4, 100)" + Edges.RANGE, "evening(0, 0, 100)" + Edges.RANGE, "evening(0, 6, 100) = 0");
        edges.tell(24, "up to 999", house, "evening(0, 999, 100) = 0; evening(0, 1000, 100)" + Edges.RANGE);
        edges.tell(24, "on the last day of all", house, "10 * days(99); days(9) = 999; evening(0, 999, 100) = 0;"
                + "evening(0, 998, 100)" + Edges.RANGE, "evening(0, 1000, 100)" + Edges.RANGE,
                "cast(0, 0, 0) = -1; dance(0) = 0");
        edges.tell(24, "the least tempo and the greatest one", house, "evening(0, 0, 40) = 0; evening(0, 0, 200) = 1;"
                + "evening(0, 0, 39)" + Edges.RANGE, "evening(0, 0, 201)" + Edges.RANGE);
    }

    /**
     * Each set of letters at once, of which the first one is due: on the evening 0, on the day 1, the dancer 0 asks
     * for the role 0. The roles 1 and 2 are others of its work, the role 3 is heavy and of another work.
     */
    private static void barsByAll() {
        String letters = "dikhnopr";
        for (int set = 0; set < 256; set++) {
            StringBuilder told = new StringBuilder();
            for (int at = 0; at < letters.length(); at++) {
                told.append((set >> at & 1) != 0 ? letters.substring(at, at + 1) : "");
            }
            String company = barredBy(told.toString());
            edges.tell(25, "the first of " + told, company, "bars(0, 0, 0) = " + (told + "-").charAt(0));
            boolean isCheap = told.length() < 3;
            if (isCheap) {
                edges.tell(26, "something bars, of " + told, company, "cast(0, 0, 0)"
                        + (told.length() == 0 ? " = -1;" : Edges.UNFIT));
            }
        }
    }

    private static String barredBy(String letters) {
        StringBuilder calls = new StringBuilder("step('b', 'b', 1, 0, 0); phrase(); phrase(); work(); work();");
        calls.append("role(0, 0, ").append(has(letters, 'k') ? 1 : 0);
        calls.append(", ").append(has(letters, 'h') ? 171 : 150);
        calls.append(", 200, ").append(has(letters, 'r') ? 6 : 5).append(");");
        calls.append("role(0, 1, 0, 150, 200, 0); role(0, 1, 0, 150, 200, 0); role(1, 1, 0, 150, 200, 6);");
        calls.append("dancer(0, 170, 99); dancer(5, 180, 99); partner(0, 2); rehearse(0, 1, 4);");
        calls.append(has(letters, 'p') ? "" : "rehearse(0, 1, 1);");
        calls.append("evening(0, 1, 100); evening(1, 1, 100); cast(0, 2, 1); cast(1, 3, 0);");
        calls.append(has(letters, 'o') ? "cast(0, 1, 0);" : "");
        calls.append(has(letters, 'n') ? "add(0, 0, false);" : "");
        calls.append(has(letters, 'i') ? "hurt(0, 3);" : "hurt(0, 1);");
        return calls.append(has(letters, 'd') ? "days(2);" : "days(1);").toString();
    }

    private static boolean has(String letters, char letter) {
        return letters.indexOf(letter) >= 0;
    }

    private static void barsByDay() {
        String house = house(2, 0, 0);
        edges.tell(25, "its day is not over: today", house, "evening(0, 3, 100); days(3); bars(0, 0, 0) = -");
        edges.tell(25, "its day is over: since today", house, "evening(0, 3, 100); days(4); bars(0, 0, 0) = d;"
                + "bars(0, 1, 1) = d");
        edges.tell(25, "its day is yet to come", house, "evening(0, 999, 100); bars(0, 0, 0) = -");
        edges.tell(25, "it was danced, for each role and dancer", house, "evening(0, 0, 100); cast(0, 0, 0);"
                + "cast(0, 1, 1); bars(0, 0, 0) = -; dance(0) = 0; bars(0, 0, 0) = d; bars(0, 1, 0) = d;"
                + "bars(0, 0, 1) = d; bars(0, 1, 1) = d");
        edges.tell(25, "it was danced, not the other one", house, "evening(0, 0, 100); evening(0, 0, 100);"
                + "cast(0, 0, 0); cast(0, 1, 1); dance(0); bars(1, 0, 0) = -");
        String week = house + Edges.times(5, "evening(0, %, 100)");
        edges.tell(25, "hurt on that day, not on others", week, "days(1); hurt(0, 2) = 3; bars(0, 0, 0) = d;"
                + "bars(1, 0, 0) = i; bars(2, 0, 0) = i; bars(3, 0, 0) = -; bars(4, 0, 0) = -; bars(1, 0, 1) = -");
        edges.tell(25, "hurt today, well on that day", week, "hurt(0, 1); bars(0, 0, 0) = i; bars(1, 0, 0) = -");
    }

    private static void barsByPerson() {
        for (int asked = 0; asked <= 5; asked++) {
            for (int rank = Math.max(0, asked - 1); rank <= Math.min(5, asked + 1); rank++) {
                edges.tell(25, "the rank " + rank + " for " + asked, "phrase(); work(); role(0, 0, " + asked
                        + ", 150, 200, 0); dancer(" + rank + ", 170, 50); evening(0, 0, 100);",
                        "bars(0, 0, 0) = " + (rank < asked ? 'k' : '-'));
            }
        }
        int[][] roles = {{150, 200}, {150, 150}, {200, 200}, {160, 180}, {170, 170}, {151, 199}};
        for (int[] role : roles) {
            for (int height : new int[] {149, 150, 151, 159, 160, 161, 169, 170, 171, 179, 180, 181, 199, 200}) {
                boolean isEdge = Math.abs(height - role[0]) <= 1 || Math.abs(height - role[1]) <= 1;
                if (isEdge && height >= 150) {
                    boolean isFit = height >= role[0] && height <= role[1];
                    edges.tell(25, "the height " + height + " for " + role[0] + " to " + role[1],
                            "phrase(); work(); role(0, 0, 0, " + role[0] + ", " + role[1] + ", 0); dancer(0, " + height
                            + ", 50); evening(0, 0, 100);", "bars(0, 0, 0) = " + (isFit ? '-' : 'h'));
                }
            }
        }
        edges.tell(25, "a rank that rises by now", "phrase(); work(); role(0, 0, 2, 150, 200, 0); dancer(0, 170, 50);"
                + "evening(0, 0, 100); promote(0) = 1; bars(0, 0, 0) = k; promote(0) = 2; bars(0, 0, 0) = -;"
                + "promote(0) = 3; bars(0, 0, 0) = -");
    }

    private static void barsByHours() {
        String house = house(2, 0, 0) + "evening(0, 0, 100);";
        edges.tell(25, "learnt without items", house, "bars(0, 0, 0) = -");
        edges.tell(25, "1 of 2 hours", house, "add(0, 0, false); learn(0, 0, 1); bars(0, 0, 0) = n");
        edges.tell(25, "2 of 2 hours", house, "add(0, 0, false); learn(0, 0, 2); bars(0, 0, 0) = -; bars(0, 1, 0) = n;"
                + "bars(0, 0, 1) = n");
        edges.tell(25, "23 and 24 of 24 hours", house, "12 * add(0, 0, false); learn(0, 0, 23); bars(0, 0, 0) = n;"
                + "learn(0, 0, 1); bars(0, 0, 0) = -");
        edges.tell(25, "an item more by now, an item less by now", house, "add(0, 0, false); learn(0, 0, 2);"
                + "add(0, 0, false); bars(0, 0, 0) = n; take(0); bars(0, 0, 0) = -; take(0); bars(0, 0, 1) = -");
        String pair = house + "partner(0, 1);";
        edges.tell(25, "the partner's role is not cast", pair, "bars(0, 0, 0) = -; bars(0, 1, 0) = -");
        edges.tell(25, "4 of 5 hours as a pair", pair, "cast(0, 1, 1); rehearse(0, 1, 4); bars(0, 0, 0) = p");
        edges.tell(25, "5 of 5 hours as a pair", pair, "cast(0, 1, 1); rehearse(0, 1, 5); bars(0, 0, 0) = -");
        edges.tell(25, "no hours as a pair, and 50", pair, "cast(0, 1, 1); bars(0, 0, 0) = p; rehearse(1, 0, 50);"
                + "bars(0, 0, 0) = -");
        edges.tell(25, "the partner's role is dropped again", pair, "cast(0, 1, 1); bars(0, 0, 0) = p; drop(0, 1);"
                + "bars(0, 0, 0) = -");
        edges.tell(25, "the partner's role on another evening", pair, "evening(0, 0, 100); cast(1, 1, 1);"
                + "bars(0, 0, 0) = -; bars(1, 0, 0) = p");
        edges.tell(25, "a role that is no partner", house(3, 0, 0, 0), "partner(0, 2); evening(0, 0, 100);"
                + "cast(0, 1, 1); bars(0, 0, 0) = -; bars(0, 2, 0) = -; cast(0, 2, 2); bars(0, 0, 0) = p;"
                + "bars(0, 0, 2) = o");
        edges.tell(25, "the partner's role, by who asks", pair, "cast(0, 1, 0); bars(0, 0, 0) = o; bars(0, 1, 0) = -");
    }

    private static void barsByOthers() {
        String house = house(2, 0, 0, 0, 0) + "evening(0, 0, 100); evening(0, 0, 100);";
        edges.tell(25, "another role on that evening", house, "cast(0, 2, 0); bars(0, 0, 0) = o; bars(0, 1, 0) = o;"
                + "bars(0, 3, 0) = o; bars(0, 0, 1) = -");
        edges.tell(25, "the own role is no other one", house, "cast(0, 2, 0); bars(0, 2, 0) = -");
        edges.tell(25, "a role on another evening of that day", house, "cast(0, 2, 0); bars(1, 0, 0) = -;"
                + "bars(1, 2, 0) = -");
        edges.tell(25, "another role no longer", house, "cast(0, 2, 0); cast(0, 2, 1) = 0; bars(0, 0, 0) = -;"
                + "bars(0, 0, 1) = o; drop(0, 2); bars(0, 0, 1) = -");
        edges.tell(25, "the first role and the last one", house, "cast(0, 0, 0); bars(0, 3, 0) = o; drop(0, 0);"
                + "cast(0, 3, 0); bars(0, 0, 0) = o");
    }

    private static void barsByRest() {
        for (int weight : new int[] {0, 5, 6, 9}) {
            for (int other : new int[] {0, 5, 6, 9}) {
                edges.tell(25, "weight " + weight + " beside " + other, house(1, weight, other),
                        "evening(0, 4, 100); evening(0, 5, 100); cast(1, 1, 0);",
                        "bars(0, 0, 0) = " + (weight >= 6 && other >= 6 ? 'r' : '-'));
            }
        }
        for (int apart = -2; apart <= 2; apart++) {
            edges.tell(25, "rest of days: " + apart, house(2, 6), "evening(0, 5, 100); evening(0, " + (5 + apart)
                    + ", 100); cast(1, 0, 0);", "bars(0, 0, 0) = " + (Math.abs(apart) < 2 ? 'r' : '-')
                    + "; bars(0, 0, 1) = -; bars(1, 0, 0) = -");
        }
        String two = house(2, 6) + "evening(0, 0, 100); evening(0, 1, 100);";
        edges.tell(25, "the other one danced", two, "cast(0, 0, 0); dance(0) = 0; bars(1, 0, 0) = r; days(1);"
                + "bars(1, 0, 0) = r; bars(1, 0, 1) = -");
        edges.tell(25, "the other one not danced, and over", two, "cast(0, 0, 0); days(1); bars(1, 0, 0) = r;"
                + "drop(0, 0) = 0; bars(1, 0, 0) = -");
        edges.tell(25, "the own evening is no other one", house(2, 6, 6), "evening(0, 0, 100); cast(0, 0, 0);"
                + "bars(0, 0, 0) = -; bars(0, 1, 0) = o; drop(0, 0); bars(0, 1, 0) = -");
        edges.tell(25, "the first day and the last one", house(1, 6), "evening(0, 0, 100); evening(0, 999, 100);"
                + "evening(0, 998, 100); cast(0, 0, 0) = -1; cast(1, 0, 0) = -1; bars(2, 0, 0) = r");
        edges.tell(25, "the eleventh evening", house(1, 6), "10 * evening(0, 9, 100); evening(0, 8, 100);"
                + "cast(10, 0, 0) = -1; bars(0, 0, 0) = r; bars(9, 0, 0) = r; bars(10, 0, 0) = -");
        edges.tell(25, "a heavy role between two evenings", house(1, 6), "evening(0, 4, 100); evening(0, 5, 100);"
                + "evening(0, 6, 100); cast(0, 0, 0) = -1; cast(2, 0, 0) = -1; bars(1, 0, 0) = r; drop(0, 0);"
                + "bars(1, 0, 0) = r; drop(2, 0); bars(1, 0, 0) = -");
        edges.tell(25, "of another work too", "phrase(); work(); work(); role(0, 0, 0, 150, 200, 6);"
                + "role(1, 0, 0, 150, 200, 6); dancer(0, 170, 99); evening(0, 0, 100); evening(1, 1, 100);"
                + "cast(1, 1, 0); bars(0, 0, 0) = r");
    }

    private static void cast() {
        String house = house(2, 0, 0) + "evening(0, 0, 100);";
        edges.tell(26, "the dancer before, -1 for none", house, "cast(0, 0, 1) = -1; cast(0, 0, 0) = 1;"
                + "cast(0, 0, 1) = 0; drop(0, 0) = 1; cast(0, 0, 0) = -1");
        edges.tell(26, "the dancer has this role", house, "cast(0, 0, 0); cast(0, 0, 0)" + Edges.UNFIT,
                "who(0, 0) = 0; cast(0, 0, 1) = 0; cast(0, 0, 1)" + Edges.UNFIT);
        edges.tell(26, "the dancer has another role", house, "cast(0, 0, 0); cast(0, 1, 0)" + Edges.UNFIT,
                "who(0, 1)" + Edges.NONE);
        edges.tell(26, "a refused one leaves the one before", house, "cast(0, 0, 0); hurt(1, 1); cast(0, 0, 1)"
                + Edges.UNFIT, "who(0, 0) = 0");
        edges.tell(26, "its day is over", house, "days(1); cast(0, 0, 0)" + Edges.UNFIT, "who(0, 0)" + Edges.NONE);
        edges.tell(26, "it was danced", house, "cast(0, 0, 0); cast(0, 1, 1); dance(0); dancer(0, 170, 99);"
                + "cast(0, 0, 2)" + Edges.UNFIT, "who(0, 0) = 0");
        edges.tell(26, "a tempo or a lack of shoes bars nobody", house, "2 * add(0, 0, false); tempi(0, 150, 160);"
                + "learn(0, 0, 4); cast(0, 0, 0) = -1");
        edges.tell(26, "the last dancer and the last role of the last evening", house(12, 0, 0, 0, 0),
                "11 * evening(0, 999, 200); cast(10, 3, 11) = -1; who(10, 3) = 11; cast(10, 3, 0) = 11");
        edges.tell(26, "all roles", house(4, 0, 0, 0, 0), "evening(0, 0, 100);", Edges.times(4, "cast(0, %, %) = -1"),
                "castShare() = 1.0; isReady(0) = true");
    }

    private static void castInPlace() {
        String pair = house(3, 0, 0) + "partner(0, 1); evening(0, 0, 100);";
        edges.tell(26, "the one before bars nobody in the same role", pair, "cast(0, 0, 0); cast(0, 0, 1) = 0;"
                + "cast(0, 0, 2) = 1");
        edges.tell(26, "the pair with the one who stays", pair, "rehearse(0, 1, 5); cast(0, 0, 0); cast(0, 1, 1) = -1;"
                + "cast(0, 1, 2)" + Edges.UNFIT, "rehearse(0, 2, 4); cast(0, 1, 2)" + Edges.UNFIT,
                "rehearse(2, 0, 1); cast(0, 1, 2) = 1; cast(0, 0, 1)" + Edges.UNFIT, "who(0, 0) = 0; who(0, 1) = 2");
        edges.tell(26, "the one before is free for another role", house(2, 0, 0), "evening(0, 0, 100); cast(0, 0, 0);"
                + "cast(0, 0, 1) = 0; cast(0, 1, 0) = -1");
        edges.tell(26, "the one before may dance a heavy role elsewhere", house(2, 6), "evening(0, 0, 100);"
                + "evening(0, 1, 100); cast(0, 0, 0); cast(1, 0, 0)" + Edges.UNFIT, "cast(0, 0, 1) = 0;"
                + "cast(1, 0, 0) = -1; cast(0, 0, 0)" + Edges.UNFIT);
    }

    private static void drop() {
        String house = house(2, 0, 0) + "evening(0, 0, 100);";
        edges.tell(27, "it is not cast", house, "drop(0, 0)" + Edges.UNFIT, "drop(0, 1)" + Edges.UNFIT);
        edges.tell(27, "the dancer 0", house, "cast(0, 0, 0); drop(0, 0) = 0; drop(0, 0)" + Edges.UNFIT);
        edges.tell(27, "the one role alone", house, "cast(0, 0, 0); cast(0, 1, 1); drop(0, 1) = 1; who(0, 0) = 0;"
                + "drop(0, 1)" + Edges.UNFIT, "drop(0, 0) = 0");
        edges.tell(27, "the evening was danced", house, "cast(0, 0, 0); cast(0, 1, 1); dance(0) = 0;"
                + "drop(0, 0)" + Edges.UNFIT, "drop(0, 1)" + Edges.UNFIT, "days(1); drop(0, 0)" + Edges.UNFIT);
        edges.tell(27, "another evening was danced", house, "evening(0, 0, 100); cast(0, 0, 0); cast(0, 1, 1);"
                + "cast(1, 0, 0); dance(0) = 0; drop(1, 0) = 0; drop(1, 0)" + Edges.UNFIT);
        edges.tell(27, "its day is over, and it was not danced", house, "cast(0, 0, 1); days(1); drop(0, 0) = 1;"
                + "drop(0, 0)" + Edges.UNFIT);
        edges.tell(27, "who is hurt can be dropped", house, "cast(0, 0, 1); hurt(1, 9); drop(0, 0) = 1;"
                + "cast(0, 0, 1)" + Edges.UNFIT);
    }

    private static void who() {
        String house = house(2, 0, 0) + "evening(0, 0, 100);";
        edges.tell(28, "nobody is", house, "who(0, 0)" + Edges.NONE, "who(0, 1)" + Edges.NONE);
        edges.tell(28, "the dancer 0", house, "cast(0, 1, 0); who(0, 1) = 0; who(0, 0)" + Edges.NONE);
        edges.tell(28, "nobody behind a drop", house, "cast(0, 0, 0); drop(0, 0); who(0, 0)" + Edges.NONE);
        edges.tell(28, "on the one evening alone", house, "evening(0, 0, 100); cast(1, 0, 1); who(1, 0) = 1;"
                + "who(0, 0)" + Edges.NONE);
        edges.tell(28, "when it was danced and is over", house, "cast(0, 0, 1); cast(0, 1, 0); dance(0); who(0, 0) = 1;"
                + "days(99); who(0, 1) = 0");
        edges.tell(28, "a role of another work", house, "work(); role(1, 0, 0, 150, 200, 0) = 2; who(0, 2)"
                + Edges.INDEX, "evening(1, 0, 100) = 1; who(1, 2)" + Edges.NONE, "who(1, 1)" + Edges.INDEX);
    }

    private static void isReady() {
        String house = house(3, 0, 0) + "evening(0, 1, 100);";
        edges.tell(29, "nobody is cast", house, "isReady(0) = false");
        edges.tell(29, "all roles but the last one are cast", house, "cast(0, 0, 0); isReady(0) = false");
        edges.tell(29, "all roles but the first one are cast", house, "cast(0, 1, 0); isReady(0) = false");
        edges.tell(29, "all its roles are cast, on a day to come", house, "cast(0, 0, 0); cast(0, 1, 1);"
                + "isReady(0) = true; drop(0, 0); isReady(0) = false");
        edges.tell(29, "today", house, "cast(0, 0, 0); cast(0, 1, 1); days(1); isReady(0) = true");
        edges.tell(29, "its day is over", house, "cast(0, 0, 0); cast(0, 1, 1); days(2); isReady(0) = false");
        edges.tell(29, "as it was danced", house, "cast(0, 0, 0); cast(0, 1, 1); days(1); dance(0) = 0;"
                + "isReady(0) = true; hurt(0, 9); add(0, 0, false); tempi(0, 150, 160); isReady(0) = true; days(99);"
                + "isReady(0) = true");
        edges.tell(29, "leaving aside the own casting", house(2, 6, 6), "partner(0, 1); rehearse(0, 1, 5);"
                + "evening(0, 1, 100); cast(0, 0, 0); cast(0, 1, 1); isReady(0) = true");
        edges.tell(29, "hurt by now", house, "cast(0, 0, 0); cast(0, 1, 1); hurt(1, 1); isReady(0) = true;"
                + "hurt(1, 2); isReady(0) = false; cast(0, 1, 2) = 1; isReady(0) = true");
        edges.tell(29, "not learnt by now", house, "cast(0, 0, 0); cast(0, 1, 1); add(0, 0, false);"
                + "isReady(0) = false; learn(0, 0, 2); learn(1, 1, 1); isReady(0) = false; learn(1, 1, 1);"
                + "isReady(0) = true");
        edges.tell(29, "partners by now", house, "cast(0, 0, 0); cast(0, 1, 1); rehearse(0, 1, 4); isReady(0) = true;"
                + "partner(1, 0); isReady(0) = false; rehearse(0, 1, 1); isReady(0) = true");
        edges.tell(29, "without shoes", house, "cast(0, 0, 0); cast(0, 1, 1); add(0, 0, false); learn(0, 0, 2);"
                + "learn(1, 1, 2); isReady(0) = true; minutes(0) = 0");
    }

    private static void isReadyByTempo() {
        String house = house(2, 0) + "work(); phrase(); role(1, 0, 0, 150, 200, 0); role(1, 1, 0, 150, 200, 0);"
                + "step('b', 'b', 1, 0, 0); learn(0, 0, 4); learn(0, 1, 4); learn(1, 2, 4);";
        for (int tempo : new int[] {40, 59, 60, 90, 91, 200}) {
            String due = tempo >= 60 && tempo <= 90 ? "true" : "false";
            edges.tell(29, "the tempo is one of 60 to 90: " + tempo, house, "tempi(0, 60, 90); evening(0, 0, " + tempo
                    + "); cast(0, 0, 0); isReady(0) = true; add(0, 0, false); isReady(0) = " + due);
            edges.tell(29, "the tempo is one of the second phrase: " + tempo, house, "tempi(0, 60, 90);"
                    + "evening(1, 0, " + tempo + "); cast(0, 1, 0); cast(0, 2, 1); isReady(0) = true;"
                    + "add(1, 0, true); isReady(0) = " + due);
        }
        edges.tell(29, "the tempi of 40 and of 200", house, "evening(0, 0, 40); evening(0, 0, 200);"
                + "cast(0, 0, 0); cast(1, 0, 0); add(0, 0, false); isReady(0) = true; isReady(1) = true;"
                + "tempi(0, 41, 199); isReady(0) = false; isReady(1) = false");
        edges.tell(29, "a phrase that has no tempo", house, "tempi(0, 60, 90); tempi(1, 91, 120); evening(0, 0, 90);"
                + "evening(0, 0, 91); cast(0, 0, 0); cast(1, 0, 0); add(0, 0, false); isReady(0) = true;"
                + "add(0, 1, false); isReady(0) = false; isReady(1) = false");
        edges.tell(29, "phrases without items ask for no tempo", house, "tempi(0, 60, 60); tempi(1, 60, 60);"
                + "evening(0, 0, 200); cast(0, 0, 0); isReady(0) = true");
    }

    private static void days() {
        edges.tell(34, "1 day", "days(1) = 1; days(1) = 2");
        edges.tell(34, "99 days", "days(99) = 99; days(99) = 198");
        edges.tell(34, "0 days and 100 days", "days(0)" + Edges.RANGE, "days(100)" + Edges.RANGE, "days(1) = 1");
        edges.tell(34, "999 by 99 days", "9 * days(99); days(9) = 900; days(99) = 999; days(1)" + Edges.FULL);
        edges.tell(34, "999 by 1 day", "10 * days(99); days(8) = 998; days(2)" + Edges.FULL, "days(1) = 999;"
                + "days(1)" + Edges.FULL, "days(99)" + Edges.FULL);
        edges.tell(34, "1000 by 99 days", "9 * days(99); days(10) = 901; days(99)" + Edges.FULL, "days(98) = 999");
        edges.tell(34, "a refused one changes nothing", "dancer(0, 170, 50); shoes(0, 1, 1, 1); 10 * days(99);"
                + "shoes(0, 1, 2, 9); days(99)" + Edges.FULL, "minutes(0) = 10; day() = 990; days(9) = 999;"
                + "minutes(0) = 30");
        edges.tell(35, "0 at first", "day() = 0");
        edges.tell(35, "behind days", "days(1); day() = 1; days(99); day() = 100");
        edges.tell(35, "behind refused days", "days(0)" + Edges.RANGE, "day() = 0; days(100)" + Edges.RANGE,
                "day() = 0; 10 * days(99); day() = 990; days(10)" + Edges.FULL, "day() = 990; days(9); day() = 999");
    }
}
