/** Promises 14 to 23: each sentence on dancers and works that names a boundary case, by runs of its own. */
public final class EdgesOfDancersTest {
    private static final Edges edges = new Edges();

    /** A phrase without items, a work with one role of weight 5 for all, and a dancer who is hurt by a load of 11. */
    private static final String SOLO =
            "phrase(); work(); role(0, 0, 0, 150, 200, 5); dancer(0, 170, 10); step('b', 'b', 4, 0, 0);";

    public static void main(String[] args) {
        dancer();
        promote();
        hurt();
        hurtAnew();
        hurtByDancing();
        load();
        work();
        role();
        roleHeights();
        partner();
        learn();
        isLearnt();
        rehearse();
        edges.mustTell(14, 23);
        edges.mustRefuse("dancer", "work", "role", "partner");
        edges.finish();
    }

    /** The dancer 0 dances the role 0 today, on the next evening by number. */
    private static String danceAlone(int evening, int day, int hurt) {
        return "evening(0, " + day + ", 100) = " + evening + "; cast(" + evening + ", 0, 0) = -1; dance(" + evening
                + ") = " + hurt + ";";
    }

    private static void dancer() {
        edges.tell(14, "at most 12 are numbered from 0", Edges.times(12, "dancer(1, 170, 50) = %"),
                "dancer(1, 170, 50)" + Edges.FULL, "dancer(5, 200, 99)" + Edges.FULL);
        edges.tell(14, "the twelfth is one like all", "11 * dancer(0, 170, 50); dancer(2, 180, 40) = 11;"
                + "load(11) = 0; minutes(11) = 0; promote(11) = 3; hurt(11, 2) = 2; shoes(11, 1, 1, 0) = 1;"
                + "rehearse(11, 0, 5) = 5; meanLoad() = 0.0");
        edges.tell(14, "a refused one has no number", "dancer(6, 170, 50)" + Edges.RANGE, "dancer(5, 170, 50) = 0;"
                + "dancer(0, 149, 50)" + Edges.RANGE, "dancer(0, 170, 9)" + Edges.RANGE, "dancer(0, 150, 10) = 1");
        edges.tell(14, "two may be alike", "dancer(0, 170, 50) = 0; dancer(0, 170, 50) = 1");
        edges.tell(14, "a load of 0 at first", "dancer(5, 200, 99); load(0) = 0; meanLoad() = 0.0; checksum() = 208537");
        edges.tell(14, "not hurt at first", SOLO, "evening(0, 0, 100); bars(0, 0, 0) = -");
        edges.tell(14, "the least rank", "phrase(); work(); role(0, 0, 1, 150, 200, 0); dancer(0, 170, 50);"
                + "evening(0, 0, 100); bars(0, 0, 0) = k; promote(0) = 1; bars(0, 0, 0) = -");
        edges.tell(14, "the greatest rank", "phrase(); work(); role(0, 0, 5, 150, 200, 0); dancer(5, 170, 50);"
                + "evening(0, 0, 100); bars(0, 0, 0) = -");
        edges.tell(14, "the least height", "phrase(); work(); role(0, 0, 0, 150, 150, 0); role(0, 0, 0, 151, 200, 0);"
                + "dancer(0, 150, 50); evening(0, 0, 100); bars(0, 0, 0) = -; bars(0, 1, 0) = h");
        edges.tell(14, "the greatest height", "phrase(); work(); role(0, 0, 0, 200, 200, 0);"
                + "role(0, 0, 0, 150, 199, 0); dancer(0, 200, 50); evening(0, 0, 100); bars(0, 0, 0) = -;"
                + "bars(0, 1, 0) = h");
        edges.tell(14, "the least stamina", SOLO, danceAlone(0, 0, 0), danceAlone(1, 0, 0), danceAlone(2, 0, 1));
        edges.tell(14, "the greatest stamina", "phrase(); work(); role(0, 0, 0, 150, 200, 5); dancer(0, 170, 99);",
                Edges.times(11, "evening(0, 0, 100); cast(%, 0, 0); dance(%) = 0"), "load(0) = 55");
    }

    private static void promote() {
        edges.tell(15, "it is 5", "dancer(5, 170, 50); promote(0)" + Edges.UNFIT, "promote(0)" + Edges.UNFIT);
        edges.tell(15, "from 4 to 5", "dancer(4, 170, 50); promote(0) = 5; promote(0)" + Edges.UNFIT);
        edges.tell(15, "from 0 on", "dancer(0, 170, 50); promote(0) = 1; promote(0) = 2; promote(0) = 3;"
                + "promote(0) = 4; promote(0) = 5; promote(0)" + Edges.UNFIT);
        edges.tell(15, "the one dancer alone", "dancer(4, 170, 50); dancer(4, 170, 50); promote(1) = 5;"
                + "promote(0) = 5");
    }

    private static void hurt() {
        edges.tell(16, "1 day is today", SOLO, "evening(0, 0, 100); evening(0, 1, 100); hurt(0, 1) = 1;"
                + "bars(0, 0, 0) = i; bars(1, 0, 0) = -");
        edges.tell(16, "99 days", SOLO, "evening(0, 0, 100); evening(0, 98, 100); evening(0, 99, 100);"
                + "evening(0, 100, 100); hurt(0, 99) = 99; bars(0, 0, 0) = i; bars(1, 0, 0) = i; bars(2, 0, 0) = -;"
                + "bars(3, 0, 0) = -");
        edges.tell(16, "from today on", SOLO, "days(5); evening(0, 5, 100); evening(0, 6, 100); evening(0, 7, 100);"
                + "hurt(0, 2) = 7; bars(0, 0, 0) = i; bars(1, 0, 0) = i; bars(2, 0, 0) = -");
        edges.tell(16, "well on the first day behind it", SOLO, "evening(0, 2, 100); hurt(0, 2) = 2; days(2);"
                + "bars(0, 0, 0) = -; cast(0, 0, 0) = -1; dance(0) = 0");
        edges.tell(16, "on the last day of all", SOLO, "10 * days(99); days(9) = 999; evening(0, 999, 100);"
                + "hurt(0, 99) = 1098; bars(0, 0, 0) = i; hurt(0, 1) = 1098");
        edges.tell(16, "0 days and 100 days", "dancer(0, 170, 50); hurt(0, 0)" + Edges.RANGE,
                "hurt(0, 100)" + Edges.RANGE, "hurt(0, 99) = 99; hurt(0, 100)" + Edges.RANGE, "hurt(0, 1) = 99");
        edges.tell(16, "the one dancer alone", SOLO, "dancer(0, 170, 50); evening(0, 0, 100); hurt(1, 9) = 9;"
                + "bars(0, 0, 0) = -; bars(0, 0, 1) = i; hurt(0, 1) = 1");
        edges.tell(16, "who is cast can be hurt", SOLO, "evening(0, 0, 100); cast(0, 0, 0); hurt(0, 1) = 1;"
                + "who(0, 0) = 0; isReady(0) = false; dance(0)" + Edges.UNFIT);
    }

    private static void hurtAnew() {
        String days = SOLO + Edges.times(7, "evening(0, %, 100)");
        edges.tell(16, "anew up to the later end, the old one", days, "hurt(0, 5) = 5; hurt(0, 2) = 5;"
                + "bars(4, 0, 0) = i; bars(5, 0, 0) = -");
        edges.tell(16, "anew up to the later end, both alike", days, "hurt(0, 3) = 3; hurt(0, 3) = 3;"
                + "bars(2, 0, 0) = i; bars(3, 0, 0) = -");
        edges.tell(16, "anew up to the later end, the new one", days, "hurt(0, 2) = 2; hurt(0, 5) = 5;"
                + "bars(4, 0, 0) = i; bars(5, 0, 0) = -");
        edges.tell(16, "anew on the last day of being hurt", days, "hurt(0, 3) = 3; days(2); hurt(0, 1) = 3;"
                + "hurt(0, 2) = 4; bars(3, 0, 0) = i; bars(4, 0, 0) = -");
        edges.tell(16, "anew on the day of being well", days, "hurt(0, 3) = 3; days(3); bars(3, 0, 0) = -;"
                + "hurt(0, 1) = 4; bars(3, 0, 0) = i; bars(4, 0, 0) = -");
        edges.tell(16, "anew long behind being well", days, "hurt(0, 1) = 1; days(5); bars(5, 0, 0) = -;"
                + "hurt(0, 1) = 6; bars(5, 0, 0) = i; bars(6, 0, 0) = -");
    }

    private static void hurtByDancing() {
        // Loads of 5, 10 and 15 by stamina 10: hurt for 5 days, from the next one on.
        String danced = SOLO + danceAlone(0, 0, 0) + danceAlone(1, 0, 0) + danceAlone(2, 0, 1)
                + "evening(0, 0, 100) = 3; evening(0, 1, 100); evening(0, 5, 100); evening(0, 6, 100) = 6;";
        edges.tell(16, "by dancing from the next day on", danced, "bars(3, 0, 0) = -; bars(4, 0, 0) = i;"
                + "bars(5, 0, 0) = i; bars(6, 0, 0) = -");
        edges.tell(16, "today, and by dancing from the next day on", danced, "hurt(0, 1) = 6; bars(3, 0, 0) = i;"
                + "bars(4, 0, 0) = i; bars(5, 0, 0) = i; bars(6, 0, 0) = -");
        edges.tell(16, "up to the end by dancing", danced, "hurt(0, 6) = 6; bars(5, 0, 0) = i; bars(6, 0, 0) = -");
        edges.tell(16, "beyond the end by dancing", danced, "hurt(0, 7) = 7; bars(6, 0, 0) = i");
        edges.tell(16, "danced anew up to the later end", danced, "cast(3, 0, 0); dance(3) = 1; load(0) = 20;"
                + "bars(6, 0, 0) = i; hurt(0, 1) = 11");
        edges.tell(16, "danced anew with a shorter hurt behind a longer one", SOLO, danceAlone(0, 0, 0),
                danceAlone(1, 0, 0), danceAlone(2, 0, 1), "hurt(0, 20) = 20; days(1); hurt(0, 1) = 20");
        edges.tell(16, "by dancing behind a long hurt that is over", SOLO, "hurt(0, 9) = 9; days(9);",
                danceAlone(0, 9, 0), danceAlone(1, 9, 0), danceAlone(2, 9, 1), "evening(0, 9, 100);"
                + "bars(3, 0, 0) = -; evening(0, 10, 100); bars(4, 0, 0) = i; evening(0, 15, 100); bars(5, 0, 0) = -");
        edges.tell(16, "by dancing behind a hurt that is over", SOLO, "hurt(0, 1) = 1; days(1);", danceAlone(0, 1, 0),
                danceAlone(1, 1, 0), danceAlone(2, 1, 1), "evening(0, 1, 100); bars(3, 0, 0) = -;"
                + "evening(0, 2, 100); bars(4, 0, 0) = i; hurt(0, 1) = 7; bars(3, 0, 0) = i");
    }

    private static void load() {
        edges.tell(17, "0 at first", "dancer(5, 200, 99); load(0) = 0; days(99); load(0) = 0");
        edges.tell(17, "more by the weight 0", "phrase(); work(); role(0, 0, 0, 150, 200, 0); dancer(0, 170, 50);",
                danceAlone(0, 0, 0), "load(0) = 0");
        edges.tell(17, "more by the weight 9", "phrase(); work(); role(0, 0, 0, 150, 200, 9); dancer(0, 170, 50);",
                danceAlone(0, 0, 0), "load(0) = 9");
        edges.tell(17, "5 less with a day", SOLO, danceAlone(0, 0, 0), danceAlone(1, 0, 0), "load(0) = 10; days(1);"
                + "load(0) = 5; days(1); load(0) = 0; days(1); load(0) = 0");
        edges.tell(17, "5 less with a day, long behind the first one", SOLO, "days(9);", danceAlone(0, 9, 0),
                danceAlone(1, 9, 0), "load(0) = 10; days(1) = 10; load(0) = 5; days(1); load(0) = 0");
        edges.tell(17, "5 less with each of two days", SOLO, Edges.times(3, "evening(0, 0, 100); cast(%, 0, 0);"
                + "dance(%)"), "load(0) = 15; days(2); load(0) = 5");
        edges.tell(17, "at least 0", "phrase(); work(); role(0, 0, 0, 150, 200, 4); dancer(0, 170, 50);",
                danceAlone(0, 0, 0), "load(0) = 4; days(1); load(0) = 0;", danceAlone(1, 1, 0), "load(0) = 4");
        edges.tell(17, "1 is left of 6", "phrase(); work(); role(0, 0, 0, 150, 200, 6); dancer(0, 170, 50);",
                danceAlone(0, 0, 0), "days(1); load(0) = 1; days(1); load(0) = 0");
        edges.tell(17, "at least 0 behind 99 days", SOLO, danceAlone(0, 0, 0), "days(99); load(0) = 0;"
                + "meanLoad() = 0.0");
        edges.tell(17, "of who does not dance", SOLO, "dancer(0, 170, 50);", danceAlone(0, 0, 0), "load(1) = 0");
    }

    private static void work() {
        edges.tell(18, "at most 4 are numbered from 0", Edges.times(4, "work() = %"), "work()" + Edges.FULL,
                "work()" + Edges.FULL);
        edges.tell(18, "without roles", "work() = 0; evening(0, 0, 100)" + Edges.UNFIT);
        edges.tell(18, "the fourth is one like all", "phrase(); 3 * work(); work() = 3;"
                + "role(3, 0, 0, 150, 200, 0) = 0; evening(3, 0, 100) = 0; who(0, 0)" + Edges.NONE);
    }

    private static void role() {
        String works = "phrase(); 4 * work();";
        edges.tell(19, "at most 4 roles each", works, Edges.times(4, "role(1, 0, 0, 150, 200, 0) = %"),
                "role(1, 0, 0, 150, 200, 0)" + Edges.FULL, "role(0, 0, 0, 150, 200, 0) = 4");
        edges.tell(19, "numbered from 0 over all works", works, "role(3, 0, 0, 150, 200, 0) = 0;"
                + "role(0, 0, 0, 150, 200, 0) = 1; role(2, 0, 0, 150, 200, 0) = 2; role(3, 0, 0, 150, 200, 0) = 3");
        edges.tell(19, "16 in all", works, Edges.times(4, "role(0, 0, 0, 150, 200, 0) = %"),
                "4 * role(1, 0, 0, 150, 200, 0); 4 * role(2, 0, 0, 150, 200, 0); 3 * role(3, 0, 0, 150, 200, 0);"
                + "role(3, 0, 0, 150, 200, 0) = 15; role(3, 0, 0, 150, 200, 0)" + Edges.FULL,
                "role(0, 0, 0, 150, 200, 0)" + Edges.FULL);
        edges.tell(19, "an evening of the work was told", works, "role(0, 0, 0, 150, 200, 0); evening(0, 999, 100);"
                + "role(0, 0, 0, 150, 200, 0)" + Edges.UNFIT, "days(9); role(0, 0, 0, 150, 200, 0)" + Edges.UNFIT);
        edges.tell(19, "an evening of another work was told", works, "role(0, 0, 0, 150, 200, 0);"
                + "evening(0, 0, 100); role(1, 0, 0, 150, 200, 0) = 1; evening(1, 0, 100);"
                + "role(2, 0, 0, 150, 200, 0) = 2; role(1, 0, 0, 150, 200, 0)" + Edges.UNFIT);
        edges.tell(19, "a refused evening is none", works, "role(0, 0, 0, 150, 200, 0); evening(0, -1, 100)"
                + Edges.RANGE, "evening(0, 0, 39)" + Edges.RANGE, "role(0, 0, 0, 150, 200, 0) = 1");
        edges.tell(19, "a refused evening is none when there are 11", works, "role(0, 0, 0, 150, 200, 0);"
                + "role(1, 0, 0, 150, 200, 0); 11 * evening(0, 0, 100); evening(1, 0, 100)" + Edges.FULL,
                "role(1, 0, 0, 150, 200, 0) = 2");
        edges.tell(19, "two roles by one phrase, and one of a phrase without items", works,
                "role(0, 0, 0, 150, 200, 0) = 0; role(0, 0, 0, 150, 200, 0) = 1");
        edges.tell(19, "the twelfth phrase", "12 * phrase(); work(); role(0, 11, 0, 150, 200, 0) = 0;"
                + "role(0, 12, 0, 150, 200, 0)" + Edges.INDEX);
    }

    private static void roleHeights() {
        String work = "phrase(); work();";
        edges.tell(19, "the greatest height, not less: the same", work, "role(0, 0, 0, 170, 170, 0) = 0;"
                + "role(0, 0, 0, 171, 170, 0)" + Edges.RANGE, "role(0, 0, 0, 170, 171, 0) = 1");
        edges.tell(19, "the least height of all alone", work, "role(0, 0, 0, 150, 150, 0) = 0");
        edges.tell(19, "the greatest height of all alone", work, "role(0, 0, 0, 200, 200, 0) = 0");
        edges.tell(19, "all heights", work, "role(0, 0, 0, 150, 200, 0) = 0");
        edges.tell(19, "exchanged", work, "role(0, 0, 0, 200, 150, 0)" + Edges.RANGE);
        edges.tell(19, "a height beyond that of dancers", work, "role(0, 0, 0, 149, 200, 0)" + Edges.RANGE,
                "role(0, 0, 0, 150, 201, 0)" + Edges.RANGE);
    }

    private static void partner() {
        String works = "phrase(); work(); work(); 4 * role(0, 0, 0, 150, 200, 0); 2 * role(1, 0, 0, 150, 200, 0);";
        edges.tell(20, "one pair", works, "partner(0, 3) = 1");
        edges.tell(20, "two pairs of 4 roles", works, "partner(3, 0) = 1; partner(1, 2) = 2; partner(0, 1)"
                + Edges.UNFIT, "partner(3, 2)" + Edges.UNFIT);
        edges.tell(20, "pairs of the one work", works, "partner(0, 1) = 1; partner(5, 4) = 1; partner(2, 3) = 2");
        edges.tell(20, "both are the same", works, "partner(0, 0)" + Edges.RANGE, "partner(5, 5)" + Edges.RANGE);
        edges.tell(20, "of unlike works", works, "partner(0, 4)" + Edges.RANGE, "partner(5, 3)" + Edges.RANGE);
        edges.tell(20, "the first one has a partner", works, "partner(0, 1); partner(0, 2)" + Edges.UNFIT,
                "partner(1, 2)" + Edges.UNFIT);
        edges.tell(20, "the second one has a partner", works, "partner(0, 1); partner(2, 0)" + Edges.UNFIT,
                "partner(2, 1)" + Edges.UNFIT);
        edges.tell(20, "both are partners", works, "partner(0, 1); partner(0, 1)" + Edges.UNFIT,
                "partner(1, 0)" + Edges.UNFIT);
        edges.tell(20, "of a work with an evening", works, "evening(0, 0, 100); partner(0, 1) = 1;"
                + "partner(2, 3) = 2");
        edges.tell(20, "a role of no work", works, "partner(0, 6)" + Edges.INDEX, "partner(6, 0)" + Edges.INDEX);
    }

    private static void learn() {
        String role = "step('b', 'b', 1, 0, 0); phrase(); work(); role(0, 0, 0, 150, 200, 0); dancer(0, 170, 50);";
        edges.tell(21, "none are missing without items", role, "learn(0, 0, 1) = 0");
        edges.tell(21, "2 hours for one item", role, "add(0, 0, false); learn(0, 0, 1) = 1; learn(0, 0, 1) = 0");
        edges.tell(21, "24 hours for 12 items", role, "12 * add(0, 0, false); learn(0, 0, 23) = 1;"
                + "learn(0, 0, 1) = 0; learn(0, 0, 1) = 0");
        edges.tell(21, "1 hour at a time", role, "2 * add(0, 0, false); learn(0, 0, 1) = 3; learn(0, 0, 1) = 2;"
                + "learn(0, 0, 1) = 1; learn(0, 0, 1) = 0; learn(0, 0, 1) = 0");
        edges.tell(21, "50 hours", role, "12 * add(0, 0, false); learn(0, 0, 50) = 0");
        edges.tell(21, "hours of long ago count", role, "learn(0, 0, 3) = 0; 2 * add(0, 0, false); learn(0, 0, 1) = 0;"
                + "add(0, 0, false); learn(0, 0, 1) = 1");
        edges.tell(21, "an item more is missing", role, "add(0, 0, false); learn(0, 0, 2) = 0; add(0, 0, true);"
                + "learn(0, 0, 1) = 1; take(0); learn(0, 0, 1) = 0");
        edges.tell(21, "0 hours and 51 hours", role, "add(0, 0, false); learn(0, 0, 0)" + Edges.RANGE,
                "learn(0, 0, 51)" + Edges.RANGE, "learn(0, 0, 1) = 1");
        edges.tell(21, "of the one dancer and the one role", role, "role(0, 0, 0, 150, 200, 0); dancer(0, 170, 50);"
                + "add(0, 0, false); learn(0, 0, 2) = 0; learn(0, 1, 1) = 1; learn(1, 0, 1) = 1; learn(1, 1, 1) = 1");
        edges.tell(21, "who is hurt learns too", role, "add(0, 0, false); hurt(0, 9); learn(0, 0, 2) = 0");
        edges.tell(21, "the last dancer and the last role", "step('b', 'b', 1, 0, 0); phrase(); add(0, 0, false);"
                + "12 * dancer(0, 170, 50); 4 * work();", Edges.times(4, "4 * role(%, 0, 0, 150, 200, 0)"),
                "learn(11, 15, 1) = 1; learn(0, 15, 1) = 1; learn(11, 0, 1) = 1; learn(11, 15, 1) = 0");
        edges.tell(21, "many hours", role, "12 * add(0, 0, false); 450 * learn(0, 0, 50); isLearnt(0, 0) = true");
    }

    private static void isLearnt() {
        String role = "step('b', 'b', 1, 0, 0); phrase(); work(); role(0, 0, 0, 150, 200, 0); dancer(0, 170, 50);";
        edges.tell(22, "without items", role, "isLearnt(0, 0) = true");
        edges.tell(22, "one hour is missing", role, "add(0, 0, false); isLearnt(0, 0) = false; learn(0, 0, 1);"
                + "isLearnt(0, 0) = false");
        edges.tell(22, "no hour is missing", role, "add(0, 0, false); learn(0, 0, 2); isLearnt(0, 0) = true");
        edges.tell(22, "of 24 hours one is missing", role, "12 * add(0, 0, false); learn(0, 0, 23);"
                + "isLearnt(0, 0) = false; learn(0, 0, 1); isLearnt(0, 0) = true");
        edges.tell(22, "as its phrase is by now", role, "add(0, 0, false); learn(0, 0, 3); isLearnt(0, 0) = true;"
                + "add(0, 0, false); isLearnt(0, 0) = false; take(0); isLearnt(0, 0) = true; take(0);"
                + "isLearnt(0, 0) = true");
        edges.tell(22, "of the one dancer and the one role", role, "role(0, 0, 0, 150, 200, 0); dancer(0, 170, 50);"
                + "add(0, 0, false); learn(0, 0, 2); isLearnt(0, 1) = false; isLearnt(1, 0) = false;"
                + "isLearnt(0, 0) = true");
    }

    private static void rehearse() {
        String two = "dancer(0, 170, 50); dancer(0, 170, 50);";
        edges.tell(23, "1 hour", two, "rehearse(0, 1, 1) = 1; rehearse(1, 0, 1) = 2");
        edges.tell(23, "50 hours", two, "rehearse(0, 1, 50) = 50; rehearse(1, 0, 50) = 100; rehearse(0, 1, 1) = 101");
        edges.tell(23, "0 hours and 51 hours", two, "rehearse(0, 1, 0)" + Edges.RANGE,
                "rehearse(1, 0, 51)" + Edges.RANGE, "rehearse(0, 1, 1) = 1");
        edges.tell(23, "both are the same", two, "rehearse(0, 0, 5)" + Edges.RANGE, "rehearse(1, 1, 5)" + Edges.RANGE,
                "rehearse(0, 1, 5) = 5");
        edges.tell(23, "of the one pair", two, "dancer(0, 170, 50); rehearse(0, 1, 5) = 5; rehearse(0, 2, 1) = 1;"
                + "rehearse(1, 2, 2) = 2; rehearse(2, 0, 1) = 2; rehearse(1, 0, 1) = 6");
        edges.tell(23, "the first and the last of 12", "12 * dancer(0, 170, 50); rehearse(0, 11, 4) = 4;"
                + "rehearse(11, 0, 1) = 5; rehearse(11, 10, 1) = 1; rehearse(10, 11, 1) = 2");
        edges.tell(23, "many hours", two, "509 * rehearse(0, 1, 50); rehearse(1, 0, 50) = 25500");
        String pair = "phrase(); work(); 2 * role(0, 0, 0, 150, 200, 0); partner(0, 1); evening(0, 0, 100);";
        edges.tell(23, "to rehearse as a pair takes 5", two, pair, "cast(0, 0, 0); rehearse(0, 1, 4);"
                + "bars(0, 1, 1) = p; rehearse(0, 1, 1); bars(0, 1, 1) = -");
    }
}
