/** Promises 30 to 33: each sentence on whole casts, the least one and dancing that names a boundary case. */
public final class EdgesOfCastsTest {
    private static final Edges edges = new Edges();

    public static void main(String[] args) {
        casts();
        castsBarred();
        castsBesideOthers();
        least();
        leastIsNone();
        leastHours();
        leastFor();
        leastForAlike();
        dance();
        danceRefused();
        danceByShoes();
        danceWearsShoes();
        danceHurts();
        danceBills();
        edges.mustTell(30, 33);
        edges.mustRefuse("leastFor");
        edges.finish();
    }

    private static String house(int dancers, int... weights) {
        return EdgesOfEveningsTest.house(dancers, weights);
    }

    private static void casts() {
        int[] due = {0, 0, 2, 6, 12, 20, 30, 42, 56, 72, 90, 110, 132};
        for (int dancers = 0; dancers <= 12; dancers++) {
            edges.tell(30, "no two the same one: 2 roles for " + dancers, house(dancers, 0, 0), "evening(0, 0, 100);",
                    "casts(0) = " + due[dancers]);
        }
        for (int dancers : new int[] {0, 1, 12}) {
            edges.tell(30, "1 role for " + dancers, house(dancers, 0), "evening(0, 0, 100); casts(0) = " + dancers);
        }
        edges.tell(30, "4 roles for 3", house(3, 0, 0, 0, 0), "evening(0, 0, 100); casts(0) = 0");
        edges.tell(30, "4 roles for 4", house(4, 0, 0, 0, 0), "evening(0, 0, 100); casts(0) = 24");
        edges.tell(30, "4 roles for 12", house(12, 0, 0, 0, 0), "evening(0, 0, 100); casts(0) = 11880;"
                + "partner(0, 1); casts(0) = 0; rehearse(0, 11, 5); casts(0) = 180; partner(2, 3); casts(0) = 0;"
                + "rehearse(1, 2, 5); casts(0) = 8");
        edges.tell(30, "the eleventh evening", house(2, 0, 0), "11 * evening(0, 9, 100); casts(10) = 2; casts(11)"
                + Edges.INDEX);
        edges.tell(30, "of each work its own", house(3, 0, 0), "work(); role(1, 0, 0, 150, 200, 0); evening(0, 0, 100);"
                + "evening(1, 0, 100); casts(0) = 6; casts(1) = 3; casts(0) = 6");
    }

    private static void castsBarred() {
        String two = house(2, 0, 0) + "evening(0, 1, 100);";
        edges.tell(30, "its day is to come, is today, is over", two, "casts(0) = 2; days(1); casts(0) = 2; days(1);"
                + "casts(0) = 0");
        edges.tell(30, "it was danced", two, "cast(0, 0, 0); cast(0, 1, 1); days(1); dance(0) = 0; casts(0) = 0");
        edges.tell(30, "hurt on that day", two, "hurt(0, 1); casts(0) = 2; hurt(0, 2); casts(0) = 0");
        edges.tell(30, "not learnt by one hour", two, "add(0, 0, false); 2 * learn(0, 0, 1); learn(1, 1, 1);"
                + "casts(0) = 0; learn(1, 1, 1); casts(0) = 1");
        edges.tell(30, "a pair that lacks one hour", two, "partner(0, 1); rehearse(0, 1, 4); casts(0) = 0;"
                + "rehearse(0, 1, 1); casts(0) = 2");
        edges.tell(30, "the rank is too low by one", "phrase(); work(); role(0, 0, 1, 150, 200, 0); dancer(0, 170, 50);"
                + "evening(0, 0, 100); casts(0) = 0; promote(0); casts(0) = 1");
        edges.tell(30, "the height does not fit by one", "phrase(); work(); role(0, 0, 0, 160, 180, 0);"
                + "dancer(0, 159, 50); dancer(0, 181, 50); evening(0, 0, 100); casts(0) = 0; dancer(0, 160, 50);"
                + "casts(0) = 1; dancer(0, 180, 50); casts(0) = 2");
        edges.tell(30, "neither a tempo nor shoes are asked", two, "add(0, 0, false); tempi(0, 150, 160);"
                + "learn(0, 0, 2); learn(1, 1, 2); casts(0) = 1");
        String between = "phrase(); work(); work(); role(1, 0, 0, 150, 200, 0); role(0, 0, 0, 150, 200, 0);"
                + "role(1, 0, 0, 150, 200, 0); role(0, 0, 0, 150, 200, 0); role(0, 0, 0, 150, 200, 0);"
                + "3 * dancer(0, 170, 50); evening(0, 0, 100); rehearse(1, 2, 5);";
        edges.tell(30, "a pair of roles with those of other works between", between, "partner(1, 4); casts(0) = 2;"
                + "evening(1, 0, 100); casts(1) = 6; partner(0, 2); casts(1) = 2");
        edges.tell(31, "a pair of roles with those of other works between", between, "partner(4, 3); least(0) = 0;"
                + "leastFor(0, 1) = 0; leastFor(0, 3) = 1; leastFor(0, 4) = 2; hurt(2, 1); dancer(0, 170, 50);"
                + "least(0) = 5");
        edges.tell(30, "a pair whose second role is the lower one", house(3, 0, 0, 0), "partner(2, 0);"
                + "evening(0, 0, 100); casts(0) = 0; rehearse(1, 2, 5); casts(0) = 2");
    }

    private static void castsBesideOthers() {
        String two = house(2, 0, 0) + "evening(0, 0, 100);";
        edges.tell(30, "nobody else on this evening", two, "cast(0, 0, 1); casts(0) = 2; who(0, 0) = 1;"
                + "cast(0, 1, 0); casts(0) = 2; partner(0, 1); casts(0) = 0");
        edges.tell(30, "light roles on other evenings", two, "evening(0, 0, 100); cast(1, 0, 0); cast(1, 1, 1);"
                + "casts(0) = 2");
        for (int apart = -2; apart <= 2; apart++) {
            edges.tell(30, "a heavy role on another evening, days apart: " + apart, house(2, 6, 0),
                    "evening(0, 5, 100); evening(0, " + (5 + apart) + ", 100); cast(1, 0, 0);",
                    "casts(0) = " + (Math.abs(apart) < 2 ? 1 : 2) + "; casts(1) = 2");
        }
        edges.tell(30, "a role of weight 5 on another evening", house(2, 5, 6), "evening(0, 5, 100);"
                + "evening(0, 5, 100); cast(1, 0, 0); casts(0) = 2; cast(1, 1, 1); casts(0) = 1");
        edges.tell(30, "two heavy roles of one evening", house(2, 6, 6), "evening(0, 5, 100); casts(0) = 2");
    }

    private static void least() {
        String two = house(2, 0, 0) + "evening(0, 0, 100);";
        edges.tell(31, "no hours", two, "least(0) = 0; leastFor(0, 0) = 0; leastFor(0, 1) = 1");
        edges.tell(31, "one hour to learn", two, "add(0, 0, false); learn(0, 0, 2); learn(1, 1, 1); least(0) = 1;"
                + "learn(1, 1, 1); least(0) = 0");
        edges.tell(31, "one hour as a pair", two, "partner(0, 1); rehearse(0, 1, 4); least(0) = 1; rehearse(0, 1, 1);"
                + "least(0) = 0");
        edges.tell(31, "the hours of a pair once", two, "partner(0, 1); least(0) = 5; partner(1, 0)" + Edges.UNFIT,
                "rehearse(1, 0, 2); least(0) = 3");
        edges.tell(31, "hours beyond those due save none", two, "add(0, 0, false); learn(0, 0, 50); least(0) = 2;"
                + "rehearse(0, 1, 50); partner(0, 1); least(0) = 2");
        edges.tell(31, "the most hours of all", house(4, 0, 0, 0, 0), "12 * add(0, 0, false); partner(0, 1);"
                + "partner(2, 3); evening(0, 0, 100); least(0) = 106; learn(3, 3, 24); least(0) = 82");
        edges.tell(31, "of 12 dancers", house(12, 0, 0, 0, 0), "12 * add(0, 0, false); evening(0, 0, 100);"
                + "least(0) = 96; learn(11, 0, 24); learn(10, 1, 23); least(0) = 49; leastFor(0, 0) = 11;"
                + "leastFor(0, 1) = 10; leastFor(0, 2) = 0; leastFor(0, 3) = 1");
        edges.tell(31, "nobody else on this evening", two, "cast(0, 0, 1); add(0, 0, false); least(0) = 4;"
                + "leastFor(0, 0) = 0; leastFor(0, 1) = 1; who(0, 0) = 1");
        edges.tell(31, "neither a tempo nor shoes are asked", two, "add(0, 0, false); tempi(0, 150, 160);"
                + "least(0) = 4");
    }

    private static void noLeast(String what, String company) {
        edges.tell(31, "there is none: " + what, company, "least(0)" + Edges.NONE);
        edges.tell(32, "there is none: " + what, company, "leastFor(0, 0)" + Edges.NONE);
    }

    private static void leastIsNone() {
        noLeast("no dancers", house(0, 0) + "evening(0, 0, 100);");
        noLeast("a dancer too few", house(3, 0, 0, 0, 0) + "evening(0, 0, 100);");
        noLeast("its day is over", house(1, 0) + "evening(0, 0, 100); days(1);");
        noLeast("it was danced", house(1, 0) + "evening(0, 0, 100); cast(0, 0, 0); dance(0);");
        noLeast("hurt on that day", house(1, 0) + "evening(0, 1, 100); hurt(0, 2);");
        noLeast("the rank is too low", "phrase(); work(); role(0, 0, 1, 150, 200, 0); dancer(0, 170, 50);"
                + "evening(0, 0, 100);");
        noLeast("the height does not fit", "phrase(); work(); role(0, 0, 0, 171, 200, 0); dancer(0, 170, 50);"
                + "evening(0, 0, 100);");
        noLeast("a heavy role the day before", house(1, 6) + "evening(0, 1, 100); evening(0, 0, 100); cast(1, 0, 0);");
        noLeast("a heavy role, and not learnt", house(1, 6) + "evening(0, 1, 100); evening(0, 2, 100); cast(1, 0, 0);"
                + "add(0, 0, false);");
        noLeast("not learnt, and hurt", house(1, 0) + "evening(0, 0, 100); add(0, 0, false); hurt(0, 1);");
        noLeast("one dancer for two roles", "phrase(); work(); role(0, 0, 0, 150, 200, 0);"
                + "role(0, 0, 0, 150, 200, 0); role(0, 0, 1, 150, 200, 0); dancer(1, 170, 50); dancer(1, 170, 50);"
                + "evening(0, 0, 100);");
        noLeast("two dancers who suit one role alone", "phrase(); work(); role(0, 0, 0, 170, 170, 0);"
                + "role(0, 0, 0, 171, 171, 0); dancer(0, 170, 50); dancer(0, 170, 50); evening(0, 0, 100);");
        edges.tell(31, "two days away from a heavy role", house(1, 6), "evening(0, 2, 100); evening(0, 0, 100);"
                + "cast(1, 0, 0); least(0) = 0");
        edges.tell(31, "well on that day", house(1, 0), "evening(0, 1, 100); hurt(0, 1); least(0) = 0");
    }

    private static void leastHours() {
        String three = house(3, 0, 0) + "add(0, 0, false); evening(0, 0, 100);";
        edges.tell(31, "hours to learn against hours as a pair", three, "partner(0, 1); rehearse(0, 1, 3);"
                + "least(0) = 6; learn(2, 0, 2); least(0) = 6; learn(2, 0, 1); rehearse(2, 1, 1); least(0) = 6;"
                + "leastFor(0, 0) = 0; rehearse(1, 2, 1); least(0) = 5; leastFor(0, 0) = 2; leastFor(0, 1) = 1");
        edges.tell(31, "one who has learnt both roles", three, "learn(1, 0, 2); learn(1, 1, 2); least(0) = 2;"
                + "leastFor(0, 0) = 0; leastFor(0, 1) = 1");
        edges.tell(31, "by hours of now", three, "least(0) = 4; add(0, 0, false); least(0) = 8; take(0); take(0);"
                + "least(0) = 0");
        edges.tell(31, "the one with the least hours, though casts differ by one", three, "learn(2, 0, 1);"
                + "least(0) = 3; leastFor(0, 0) = 2; learn(1, 0, 2); least(0) = 2; leastFor(0, 0) = 1;"
                + "leastFor(0, 1) = 0");
    }

    private static void leastFor() {
        edges.tell(32, "of like ones the lowest dancer for the first role", house(12, 0), "evening(0, 0, 100);"
                + "leastFor(0, 0) = 0; hurt(0, 1); leastFor(0, 0) = 1; hurt(1, 1); leastFor(0, 0) = 2");
        edges.tell(32, "then for the next one", house(4, 0, 0, 0, 0), "evening(0, 0, 100); leastFor(0, 0) = 0;"
                + "leastFor(0, 1) = 1; leastFor(0, 2) = 2; leastFor(0, 3) = 3");
        edges.tell(32, "the first role is ahead of the next one", house(3, 0, 0), "add(0, 0, false);"
                + "evening(0, 0, 100); learn(0, 1, 2); learn(1, 0, 2); least(0) = 0; leastFor(0, 0) = 1;"
                + "leastFor(0, 1) = 0");
        edges.tell(32, "a role of another work", house(2, 0), "work(); role(1, 0, 0, 150, 200, 0);"
                + "evening(0, 0, 100); leastFor(0, 1)" + Edges.INDEX, "leastFor(0, 0) = 0");
        edges.tell(32, "roles by numbers, those of other works between", "phrase(); work(); work();"
                + "role(1, 0, 0, 150, 200, 0); role(0, 0, 0, 150, 200, 0); role(1, 0, 0, 150, 200, 0);"
                + "role(0, 0, 0, 150, 200, 0); role(0, 0, 0, 150, 200, 0); 3 * dancer(0, 170, 50);"
                + "evening(0, 0, 100); evening(1, 0, 100); leastFor(0, 1) = 0; leastFor(0, 3) = 1; leastFor(0, 4) = 2;"
                + "leastFor(1, 0) = 0; leastFor(1, 2) = 1; leastFor(0, 0)" + Edges.INDEX, "leastFor(0, 2)"
                + Edges.INDEX, "leastFor(1, 3)" + Edges.INDEX);
    }

    private static void leastForAlike() {
        String three = house(3, 0, 0) + "add(0, 0, false); evening(0, 0, 100);";
        edges.tell(32, "like hours in another order", three, "learn(0, 1, 1); learn(1, 0, 1); learn(2, 0, 2);"
                + "learn(2, 1, 2); least(0) = 1; leastFor(0, 0) = 1; leastFor(0, 1) = 2");
        edges.tell(32, "fewer hours by a higher dancer", three, "learn(2, 0, 1); leastFor(0, 0) = 2;"
                + "leastFor(0, 1) = 0; learn(0, 0, 1); leastFor(0, 0) = 0; leastFor(0, 1) = 1");
        edges.tell(32, "like hours, the next role decides", three, "learn(0, 0, 2); learn(1, 1, 1); learn(2, 1, 1);"
                + "least(0) = 1; leastFor(0, 1) = 1; learn(2, 1, 1); leastFor(0, 1) = 2");
        edges.tell(32, "like hours of pairs", house(4, 0, 0), "partner(0, 1); evening(0, 0, 100); rehearse(3, 1, 4);"
                + "rehearse(2, 1, 4); least(0) = 1; leastFor(0, 0) = 1; leastFor(0, 1) = 2; rehearse(0, 3, 4);"
                + "leastFor(0, 0) = 0; leastFor(0, 1) = 3");
    }

    private static void dance() {
        String two = house(2, 3, 0) + "evening(0, 0, 100); cast(0, 0, 0); cast(0, 1, 1);";
        edges.tell(33, "once", two, "dance(0) = 0; dance(0)" + Edges.UNFIT, "days(1); dance(0)" + Edges.UNFIT);
        edges.tell(33, "the load of each dancer by the weight of the role", two, "dance(0) = 0; load(0) = 3;"
                + "load(1) = 0");
        edges.tell(33, "two evenings of one day", two, "evening(0, 0, 100); cast(1, 0, 0); cast(1, 1, 1);"
                + "dance(1) = 0; load(0) = 3; dance(0) = 0; load(0) = 6");
        edges.tell(33, "all 4 roles", house(4, 1, 2, 3, 4), "evening(0, 0, 100);", Edges.times(4, "cast(0, %, %)"),
                "dance(0) = 0; load(0) = 1; load(1) = 2; load(2) = 3; load(3) = 4; bill() = 200");
        edges.tell(33, "the eleventh evening", house(1, 1), "11 * evening(0, 0, 100); cast(10, 0, 0); dance(10) = 0;"
                + "load(0) = 1; dance(9)" + Edges.UNFIT);
        edges.tell(33, "on the last day of all", house(1, 1), "evening(0, 999, 100); cast(0, 0, 0); 10 * days(99);"
                + "dance(0)" + Edges.UNFIT, "days(9); dance(0) = 0; isReady(0) = true");
    }

    private static void danceRefused() {
        String two = house(2, 3, 0) + "evening(0, 2, 100);";
        edges.tell(33, "nobody is cast", two, "days(2); dance(0)" + Edges.UNFIT);
        edges.tell(33, "a role is not cast", two, "cast(0, 0, 0); days(2); dance(0)" + Edges.UNFIT,
                "cast(0, 1, 1); dance(0) = 0");
        edges.tell(33, "the day before", two, "cast(0, 0, 0); cast(0, 1, 1); days(1); dance(0)" + Edges.UNFIT);
        edges.tell(33, "on its day", two, "cast(0, 0, 0); cast(0, 1, 1); days(2); dance(0) = 0");
        edges.tell(33, "the day behind", two, "cast(0, 0, 0); cast(0, 1, 1); days(3); dance(0)" + Edges.UNFIT);
        edges.tell(33, "a dancer is hurt", two, "cast(0, 0, 0); cast(0, 1, 1); days(2); hurt(1, 1); dance(0)"
                + Edges.UNFIT, "load(0) = 0");
        edges.tell(33, "a tempo that a phrase does not allow", house(1, 0), "shoes(0, 1, 1, 0); learn(0, 0, 2);"
                + "evening(0, 0, 100); cast(0, 0, 0); add(0, 0, false); tempi(0, 101, 200); dance(0)" + Edges.UNFIT,
                "tempi(0, 40, 99); dance(0)" + Edges.UNFIT, "tempi(0, 40, 100); dance(0) = 0");
        edges.tell(33, "a dancer has not learnt it by now", house(1, 0), "shoes(0, 1, 1, 0); evening(0, 0, 100);"
                + "cast(0, 0, 0); add(0, 0, false); learn(0, 0, 1); dance(0)" + Edges.UNFIT,
                "learn(0, 0, 1); dance(0) = 0");
    }

    /** The role takes as many minutes as told by a phrase of these counts. */
    private static String roleOfCounts(int counts) {
        StringBuilder calls = new StringBuilder(Edges.times(8, "step('b', 'b', 8, 0, 0)").replace("8, 0, 0", "1, 0, 0"));
        calls.append("step('b', 'b', 8, 0, 0); phrase(); work(); role(0, 0, 0, 150, 200, 1); dancer(0, 170, 99);"
                + "learn(0, 0, 50);");
        for (int eights = 0; eights < counts / 8; eights++) {
            calls.append("add(0, 8, false);");
        }
        for (int ones = 0; ones < counts % 8; ones++) {
            calls.append("add(0, ").append(ones).append(", false);");
        }
        return calls.append("evening(0, 0, 100); cast(0, 0, 0);").toString();
    }

    private static void danceByShoes() {
        int[][] minutes = {{1, 1}, {3, 1}, {4, 1}, {5, 2}, {7, 2}, {8, 2}, {9, 3}, {39, 10}, {40, 10}, {96, 24}};
        for (int[] due : minutes) {
            edges.tell(33, "a fourth, rounded up, of counts " + due[0], roleOfCounts(due[0]), "dance(0)" + Edges.UNFIT,
                    "shoes(0, 1, 5, 0); dance(0) = 0; minutes(0) = " + (50 - due[1]));
        }
        edges.tell(33, "no minutes without items", roleOfCounts(0), "minutes(0) = 0; dance(0) = 0; minutes(0) = 0");
        edges.tell(33, "just as many minutes", roleOfCounts(40), "shoes(0, 1, 1, 0); dance(0) = 0; minutes(0) = 0");
        edges.tell(33, "a minute too few", roleOfCounts(41), "shoes(0, 1, 1, 0); dance(0)" + Edges.UNFIT,
                "minutes(0) = 10; shoes(0, 1, 1, 0); dance(0) = 0; minutes(0) = 9");
        edges.tell(33, "shoes of tomorrow", roleOfCounts(40), "shoes(0, 9, 5, 1); dance(0)" + Edges.UNFIT,
                "shoes(0, 1, 1, 0); dance(0) = 0; minutes(0) = 0; days(1); minutes(0) = 450");
        edges.tell(33, "somebody has not enough shoes, the second one", house(2, 1, 1), "add(0, 0, false);"
                + "learn(0, 0, 2); learn(1, 1, 2); shoes(0, 1, 1, 0); evening(0, 0, 100); cast(0, 0, 0);"
                + "cast(0, 1, 1); dance(0)" + Edges.UNFIT, "minutes(0) = 10; load(0) = 0; shoes(1, 1, 1, 0);"
                + "dance(0) = 0; minutes(0) = 9; minutes(1) = 9");
        edges.tell(33, "somebody has not enough shoes, the first one", house(2, 1, 1), "add(0, 0, false);"
                + "learn(0, 0, 2); learn(1, 1, 2); shoes(1, 1, 1, 0); evening(0, 0, 100); cast(0, 0, 0);"
                + "cast(0, 1, 1); dance(0)" + Edges.UNFIT, "minutes(1) = 10");
        edges.tell(33, "of each role its own phrase", "step('b', 'b', 8, 0, 0); phrase(); phrase(); work();"
                + "role(0, 0, 0, 150, 200, 0); role(0, 1, 0, 150, 200, 0); 2 * dancer(0, 170, 50); learn(0, 0, 2);"
                + "add(0, 0, false); evening(0, 0, 100); cast(0, 0, 0); cast(0, 1, 1); shoes(0, 1, 1, 0);"
                + "dance(0) = 0; minutes(0) = 8; minutes(1) = 0");
    }

    private static void danceWearsShoes() {
        String more = "evening(0, 0, 100); cast(1, 0, 0);";
        edges.tell(33, "those with the least left first", roleOfCounts(16), more, "shoes(0, 1, 2, 0) = 1;"
                + "shoes(0, 1, 1, 0) = 2; dance(0) = 0; minutes(0) = 26; dance(1) = 0; minutes(0) = 22;"
                + "evening(0, 0, 100); cast(2, 0, 0); dance(2) = 0; minutes(0) = 18; shoes(0, 1, 5, 99) = 2");
        edges.tell(33, "a pair is worn out to the last minute", roleOfCounts(40), "shoes(0, 1, 1, 0) = 1;"
                + "shoes(0, 1, 2, 0) = 2; dance(0) = 0; minutes(0) = 20; shoes(0, 1, 1, 99) = 2");
        edges.tell(33, "a pair with one minute left is not worn out", roleOfCounts(36), "shoes(0, 1, 1, 0) = 1;"
                + "dance(0) = 0; minutes(0) = 1; shoes(0, 1, 1, 99) = 2");
        edges.tell(33, "of like ones the earlier one", roleOfCounts(20), more, "shoes(0, 2, 1, 0) = 2; dance(0) = 0;"
                + "minutes(0) = 15; shoes(0, 1, 1, 99) = 3; dance(1) = 0; minutes(0) = 10; shoes(0, 1, 1, 99) = 3");
        edges.tell(33, "from more than one pair", roleOfCounts(96), "shoes(0, 3, 1, 0) = 3; dance(0) = 0;"
                + "minutes(0) = 6; shoes(0, 1, 1, 99) = 2");
        edges.tell(33, "not from those that can't be worn yet", roleOfCounts(96), "shoes(0, 1, 1, 1); shoes(0, 1, 5, 0);"
                + "dance(0) = 0; minutes(0) = 26; days(1); minutes(0) = 36");
        edges.tell(33, "a later pair with less left ahead of an earlier one", roleOfCounts(36), more,
                "shoes(0, 1, 5, 0) = 1; dance(0) = 0; minutes(0) = 41; shoes(0, 1, 1, 0) = 2; dance(1) = 0;"
                + "minutes(0) = 42; shoes(0, 1, 1, 99) = 3; evening(0, 0, 100); cast(2, 0, 0); dance(2) = 0;"
                + "minutes(0) = 33; shoes(0, 1, 1, 99) = 3");
    }

    private static void danceHurts() {
        // The load is the weight 5 for each evening that was danced, and 1 more for the last one.
        String solo = "phrase(); work(); work(); role(0, 0, 0, 150, 200, 5); role(1, 0, 0, 150, 200, 1);";
        String ten = "evening(0, 0, 100); evening(0, 0, 100); cast(0, 0, 0); cast(1, 0, 0);";
        String one = "evening(1, 0, 100); cast(2, 1, 0); evening(0, 0, 100); evening(0, 1, 100); evening(0, 2, 100);";
        edges.tell(33, "a load of the stamina", solo, "dancer(0, 170, 10);", ten, "dance(0) = 0; dance(1) = 0;"
                + "load(0) = 10; hurt(0, 1) = 1");
        edges.tell(33, "a load above the stamina by 1", solo, "dancer(0, 170, 10);", ten, one, "dance(0); dance(1);"
                + "dance(2) = 1; load(0) = 11; bars(3, 0, 0) = -; bars(4, 0, 0) = i; bars(5, 0, 0) = -");
        edges.tell(33, "a load below the stamina by 1", solo, "dancer(0, 170, 12);", ten, one, "dance(0); dance(1);"
                + "dance(2) = 0; bars(4, 0, 0) = -");
        edges.tell(33, "for as many days as it is above", solo, "dancer(0, 170, 10);", ten, "dance(0); dance(1);"
                + "evening(0, 0, 100); cast(2, 0, 0); dance(2) = 1; evening(0, 1, 100); evening(0, 5, 100);"
                + "evening(0, 6, 100); bars(3, 0, 0) = i; bars(4, 0, 0) = i; bars(5, 0, 0) = -");
        edges.tell(33, "all of its dancers are hurt", house(0, 5, 5, 5, 5), "4 * dancer(0, 170, 10);",
                Edges.times(3, "evening(0, 0, 100)"),
                Edges.times(4, "cast(0, %, %); cast(1, %, %); cast(2, %, %)"), "dance(0) = 0; dance(1) = 0;"
                + "dance(2) = 4");
        edges.tell(33, "some of its dancers are hurt", house(0, 5, 4), "2 * dancer(0, 170, 10);",
                Edges.times(3, "evening(0, 0, 100)"), Edges.times(2, "cast(0, %, %); cast(1, %, %)"),
                "dance(0) = 0; dance(1) = 0; load(1) = 8; cast(2, 0, 1); cast(2, 1, 0); dance(2) = 2; load(0) = 14;"
                + "load(1) = 13");
        edges.tell(33, "one of its dancers is hurt", house(0, 5, 0), "2 * dancer(0, 170, 10);",
                Edges.times(3, "evening(0, 0, 100)"), Edges.times(2, "cast(0, %, %); cast(1, %, %); cast(2, %, %)"),
                "dance(0); dance(1); dance(2) = 1");
        edges.tell(33, "by a role of the weight 0 above the stamina", solo, "role(1, 0, 0, 150, 200, 0) = 2;"
                + "2 * dancer(0, 170, 10);", ten, "dance(0); dance(1); evening(1, 0, 100); cast(2, 1, 0);"
                + "cast(2, 2, 1); dance(2) = 1; evening(1, 0, 100); cast(3, 2, 0); cast(3, 1, 1); dance(3) = 1;"
                + "load(0) = 11; hurt(1, 1) = 1");
        edges.tell(33, "a day less of load", solo, "dancer(0, 170, 10);", ten, "dance(0); dance(1); days(1);"
                + "evening(0, 1, 100); cast(2, 0, 0); dance(2) = 0; load(0) = 10");
    }

    private static void danceBills() {
        for (int rank = 0; rank <= 5; rank++) {
            edges.tell(33, "50 and 50 more for each rank: " + rank, "phrase(); work(); role(0, 0, 0, 150, 200, 0);"
                    + "dancer(" + rank + ", 170, 50); evening(0, 0, 100); cast(0, 0, 0); bill() = 0; dance(0) = 0;"
                    + "bill() = " + (50 + 50 * rank));
        }
        edges.tell(33, "the rank by then", house(1, 0), "evening(0, 0, 100); evening(0, 0, 100); cast(0, 0, 0);"
                + "cast(1, 0, 0); dance(0); bill() = 50; promote(0); bill() = 50; dance(1); bill() = 150");
        edges.tell(33, "a refused one has no bill", house(1, 0), "evening(0, 1, 100); cast(0, 0, 0); dance(0)"
                + Edges.UNFIT, "bill() = 0");
    }
}
