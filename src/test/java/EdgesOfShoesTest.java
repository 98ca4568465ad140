import java.math.BigInteger;

/** Promises 36 to 42: each sentence on shoes and sums that names a boundary case, by runs of its own. */
public final class EdgesOfShoesTest {
    private static final Edges edges = new Edges();

    public static void main(String[] args) {
        shoes();
        minutes();
        bill();
        checksum();
        checksumWraps();
        castShare();
        meanLoad();
        isSound();
        edges.mustTell(36, 42);
        edges.mustRefuse("castShare", "meanLoad");
        edges.finish();
    }

    /** A work with one role of weight 0, whose phrase has 40 counts, which take 10 minutes, and who has learnt it. */
    private static final String TEN_MINUTES = "step('b', 'b', 8, 0, 0); phrase(); 5 * add(0, 0, false); work();"
            + "role(0, 0, 0, 150, 200, 0); dancer(0, 170, 99); learn(0, 0, 10); evening(0, 0, 100); cast(0, 0, 0);";

    private static void shoes() {
        String two = "dancer(0, 170, 50); dancer(0, 170, 50);";
        edges.tell(36, "1 pair and 9 pairs", two, "shoes(0, 1, 1, 0) = 1; shoes(0, 9, 1, 0) = 10; minutes(0) = 100");
        edges.tell(36, "0 pairs and 10 pairs", two, "shoes(0, 0, 1, 0)" + Edges.RANGE, "shoes(0, 10, 1, 0)"
                + Edges.RANGE, "shoes(0, 1, 1, 0) = 1; bill() = 22");
        edges.tell(36, "the hardness 1 and 5", two, "shoes(0, 1, 1, 0) = 1; minutes(0) = 10; shoes(0, 1, 5, 0) = 2;"
                + "minutes(0) = 60");
        edges.tell(36, "the hardness 0 and 6", two, "shoes(0, 1, 0, 0)" + Edges.RANGE, "shoes(0, 1, 6, 0)"
                + Edges.RANGE, "minutes(0) = 0; bill() = 0");
        edges.tell(36, "in 0 days and in 99", two, "shoes(0, 1, 1, 0) = 1; shoes(0, 1, 1, 99) = 2; minutes(0) = 10;"
                + "days(98); minutes(0) = 10; days(1); minutes(0) = 20");
        edges.tell(36, "in -1 days and in 100", two, "shoes(0, 1, 1, -1)" + Edges.RANGE, "shoes(0, 1, 1, 100)"
                + Edges.RANGE, "shoes(0, 1, 1, 1) = 1");
        edges.tell(36, "those that the dancer waits for are counted", two, "shoes(0, 3, 1, 99) = 3;"
                + "shoes(0, 2, 5, 1) = 5; minutes(0) = 0; days(1); minutes(0) = 100; shoes(0, 1, 1, 0) = 6");
        edges.tell(36, "those worn out are not counted", TEN_MINUTES, "shoes(0, 1, 1, 0) = 1; dance(0) = 0;"
                + "minutes(0) = 0; shoes(0, 1, 1, 0) = 1");
        edges.tell(36, "those nearly worn out are counted", TEN_MINUTES, "take(0) = 32; shoes(0, 1, 1, 0) = 1;"
                + "dance(0) = 0; minutes(0) = 2; shoes(0, 1, 1, 0) = 2");
        edges.tell(36, "of the one dancer alone", two, "shoes(0, 3, 1, 0) = 3; shoes(1, 1, 1, 0) = 1;"
                + "minutes(0) = 30; minutes(1) = 10");
        edges.tell(36, "all of one order", two, "shoes(0, 9, 5, 0) = 9; minutes(0) = 450; bill() = 270");
        edges.tell(36, "many orders", two, "250 * shoes(0, 9, 5, 0); 250 * shoes(0, 9, 5, 99); shoes(0, 1, 1, 0) = 4501;"
                + "minutes(0) = 112510; days(99); minutes(0) = 225010; bill() = 135022");
        edges.tell(36, "on the last day of all", two, "10 * days(99); days(9); shoes(0, 1, 1, 99) = 1;"
                + "shoes(0, 1, 1, 0) = 2; minutes(0) = 10");
    }

    private static void minutes() {
        String one = "dancer(0, 170, 50);";
        edges.tell(37, "none without shoes", one, "minutes(0) = 0");
        for (int hardness = 1; hardness <= 5; hardness++) {
            edges.tell(37, "10 times the hardness " + hardness, one, "shoes(0, 1, " + hardness + ", 0); minutes(0) = "
                    + 10 * hardness);
            edges.tell(37, "of 9 pairs of the hardness " + hardness, one, "shoes(0, 9, " + hardness
                    + ", 0); minutes(0) = " + 90 * hardness);
        }
        edges.tell(37, "can be worn from a day on: the day before", one, "days(3); shoes(0, 1, 1, 2); days(1);"
                + "minutes(0) = 0");
        edges.tell(37, "can be worn from a day on: that day", one, "days(3); shoes(0, 1, 1, 2); days(2);"
                + "minutes(0) = 10");
        edges.tell(37, "can be worn from a day on: days that go by at once", one, "days(3); shoes(0, 1, 1, 2);"
                + "days(99); minutes(0) = 10; days(99); minutes(0) = 10");
        edges.tell(37, "today, not those of tomorrow", one, "shoes(0, 1, 2, 0); shoes(0, 1, 1, 1); minutes(0) = 20");
        edges.tell(37, "all are worn out", TEN_MINUTES, "shoes(0, 1, 1, 0); dance(0); minutes(0) = 0");
        edges.tell(37, "of who did not dance", TEN_MINUTES, "dancer(0, 170, 50); shoes(1, 1, 1, 0); shoes(0, 1, 1, 0);"
                + "dance(0); minutes(1) = 10");
    }

    private static void bill() {
        String one = "dancer(0, 170, 50);";
        edges.tell(38, "0 at first", "bill() = 0");
        for (int hardness = 1; hardness <= 5; hardness++) {
            edges.tell(38, "20 and twice the hardness " + hardness, one, "shoes(0, 1, " + hardness + ", 0); bill() = "
                    + (20 + 2 * hardness));
            edges.tell(38, "for each of 9 pairs of the hardness " + hardness, one, "shoes(0, 9, " + hardness
                    + ", 99); bill() = " + 9 * (20 + 2 * hardness) + "; days(99); bill() = "
                    + 9 * (20 + 2 * hardness));
        }
        edges.tell(38, "refused shoes have no bill", one, "shoes(0, 10, 1, 0)" + Edges.RANGE, "shoes(1, 1, 1, 0)"
                + Edges.INDEX, "bill() = 0");
        edges.tell(38, "50 for a dancer of the rank 0", TEN_MINUTES, "shoes(0, 1, 1, 0); dance(0); bill() = 72");
        edges.tell(38, "50 more for each rank, up to 5", TEN_MINUTES, "5 * promote(0); shoes(0, 1, 1, 0); dance(0);"
                + "bill() = 322");
        edges.tell(38, "the greatest for an evening", "phrase(); work(); 4 * role(0, 0, 0, 150, 200, 0);"
                + "4 * dancer(5, 170, 50); evening(0, 0, 100);", Edges.times(4, "cast(0, %, %)"),
                "dance(0) = 0; bill() = 1200; dance(0)" + Edges.UNFIT, "bill() = 1200");
        edges.tell(38, "an evening that is not danced", TEN_MINUTES, "isReady(0) = true; dance(0)" + Edges.UNFIT,
                "days(1); bill() = 0");
    }

    private static void checksum() {
        // 7 at first, times 31 and the bills of 0.
        edges.tell(39, "7 at first", "checksum() = 217");
        edges.tell(39, "then for each phrase", "phrase(); checksum() = 6727; phrase(); checksum() = 208537;"
                + "step('b', 'b', 8, 0, 0); add(1, 0, false); checksum() = " + sum(0, 8, 0));
        edges.tell(39, "then for each dancer the load and the minutes", "dancer(0, 170, 50); checksum() = "
                + sum(0, 0, 0) + "; shoes(0, 1, 1, 0); shoes(0, 1, 1, 1); checksum() = " + sum(0, 10, 44));
        edges.tell(39, "minutes of shoes today", "dancer(0, 170, 50); shoes(0, 1, 1, 1); checksum() = " + sum(0, 0, 22)
                + "; days(1); checksum() = " + sum(0, 10, 22));
        edges.tell(39, "then for each evening and role, -1 for none", "phrase(); work();"
                + "2 * role(0, 0, 0, 150, 200, 3); 2 * dancer(0, 170, 50); evening(0, 0, 100); checksum() = "
                + sum(0, 0, 0, 0, 0, -1, -1, 0) + "; cast(0, 1, 0); checksum() = " + sum(0, 0, 0, 0, 0, -1, 0, 0)
                + "; cast(0, 0, 1); evening(0, 0, 100); cast(1, 0, 1); checksum() = "
                + sum(0, 0, 0, 0, 0, 1, 0, 1, -1, 0) + "; dance(0); checksum() = "
                + sum(0, 3, 0, 3, 0, 1, 0, 1, -1, 100));
        edges.tell(39, "steps, works and roles alone add nothing", "step('b', 'b', 8, 0, 0); work(); checksum() = 217;"
                + "phrase(); checksum() = 6727; role(0, 0, 0, 150, 200, 0); checksum() = 6727");
        edges.tell(39, "then the bills", "dancer(0, 170, 50); shoes(0, 9, 5, 99); checksum() = " + sum(0, 0, 270));
    }

    /** All phrases, dancers and evenings at once: the sum wraps around in 64 bits. */
    private static void checksumWraps() {
        long[] numbers = new long[12 + 24 + 44 + 1];
        for (int phrase = 0; phrase < 12; phrase++) {
            numbers[phrase] = phrase < 6 ? 96 : 0;
        }
        for (int dancer = 0; dancer < 12; dancer++) {
            numbers[12 + 2 * dancer + 1] = 450;
        }
        for (int at = 36; at < 80; at++) {
            numbers[at] = -1;
        }
        numbers[80] = 12 * 270;
        String full = "step('b', 'b', 8, 0, 0);" + Edges.times(12, "phrase()") + "work(); 4 * role(0, 11, 0, 150, 200, 0);"
                + Edges.times(6, "12 * add(%, 0, false)") + Edges.times(12, "dancer(0, 170, 50); shoes(%, 9, 5, 0)")
                + "11 * evening(0, 0, 100);";
        edges.tell(39, "of all that there can be, by a wrap-around", full, "checksum() = " + sum(numbers));
        numbers[79] = 11;
        edges.tell(39, "of all that there can be, the last role cast", full, "cast(10, 3, 11) = -1; checksum() = "
                + sum(numbers));
    }

    /** 31 times itself plus each number, without a limit first, then as a long. */
    private static long sum(long... numbers) {
        BigInteger sum = BigInteger.valueOf(7);
        for (long number : numbers) {
            sum = sum.multiply(BigInteger.valueOf(31)).add(BigInteger.valueOf(number));
        }
        return sum.longValue();
    }

    private static void castShare() {
        String house = "phrase(); work(); work(); 3 * role(0, 0, 0, 150, 200, 0); role(1, 0, 0, 150, 200, 0);"
                + "3 * dancer(0, 170, 50);";
        edges.tell(40, "there are no evenings", house, "castShare()" + Edges.NONE, "evening(0, -1, 100)" + Edges.RANGE,
                "castShare()" + Edges.NONE);
        edges.tell(40, "none is cast", house, "evening(0, 0, 100); castShare() = 0.0");
        edges.tell(40, "all are cast", house, "evening(0, 0, 100);", Edges.times(3, "cast(0, %, %)"),
                "castShare() = 1.0");
        edges.tell(40, "one of three", house, "evening(0, 0, 100); cast(0, 0, 0); castShare() = " + 1f / 3f);
        edges.tell(40, "two of three", house, "evening(0, 0, 100); cast(0, 0, 0); cast(0, 1, 1); castShare() = "
                + 2f / 3f);
        edges.tell(40, "of evenings, not of works", house, "evening(1, 0, 100); cast(0, 3, 0); castShare() = 1.0;"
                + "evening(0, 0, 100); castShare() = 0.25; evening(0, 0, 100); castShare() = " + 1f / 7f);
        edges.tell(40, "of evenings that are over or were danced, too", house, "evening(1, 0, 100);"
                + "evening(1, 0, 100); cast(0, 3, 0); dance(0); cast(1, 3, 1); days(1); castShare() = 1.0;"
                + "evening(1, 1, 100); castShare() = " + 2f / 3f + "; drop(1, 3); castShare() = " + 1f / 3f);
        edges.tell(40, "one of 44", "phrase(); work(); 4 * role(0, 0, 0, 150, 200, 0); dancer(0, 170, 50);"
                + "11 * evening(0, 0, 100); cast(10, 3, 0); castShare() = " + 1f / 44f);
    }

    private static void meanLoad() {
        String role = "phrase(); work(); role(0, 0, 0, 150, 200, 5);";
        edges.tell(41, "there are none", role, "meanLoad()" + Edges.NONE, "dancer(6, 170, 50)" + Edges.RANGE,
                "meanLoad()" + Edges.NONE);
        edges.tell(41, "of one without load", role, "dancer(0, 170, 50); meanLoad() = 0.0");
        edges.tell(41, "of one", role, "dancer(0, 170, 50); evening(0, 0, 100); cast(0, 0, 0); dance(0);"
                + "meanLoad() = 5.0; days(1); meanLoad() = 0.0");
        edges.tell(41, "of 3", role, "3 * dancer(0, 170, 50); evening(0, 0, 100); cast(0, 0, 2); dance(0);"
                + "meanLoad() = " + 5.0 / 3.0);
        edges.tell(41, "of 12", role, "12 * dancer(0, 170, 50); evening(0, 0, 100); cast(0, 0, 11); dance(0);"
                + "meanLoad() = " + 5.0 / 12.0);
    }

    private static void isSound() {
        edges.tell(42, "at first", "isSound() = true");
        edges.tell(42, "12 phrases of 12 items", "step('l', 'r', 8, 3, 3); phrase();",
                Edges.times(6, "add(0, 0, false); add(0, 0, true)"), "11 * mirror(0); isSound() = true");
        edges.tell(42, "all evenings cast", "phrase(); work(); 4 * role(0, 0, 0, 150, 200, 5); partner(0, 1);"
                + "partner(2, 3); 4 * dancer(0, 170, 50); rehearse(0, 1, 5); rehearse(2, 3, 5);"
                + "11 * evening(0, 0, 100);", Edges.times(11, "cast(%, 0, 0); cast(%, 1, 1); cast(%, 2, 2); cast(%, 3, 3)"),
                "isSound() = true; castShare() = 1.0");
        edges.tell(42, "the rank and the height just as asked", "phrase(); work(); role(0, 0, 5, 150, 150, 0);"
                + "role(0, 0, 0, 200, 200, 0); dancer(5, 150, 50); dancer(0, 200, 50); evening(0, 0, 100);"
                + "cast(0, 0, 0); cast(0, 1, 1); isSound() = true");
        edges.tell(42, "behind refused calls", "step('l', 'r', 1, 0, 0); phrase(); add(0, 0, false); add(0, 0, false)"
                + Edges.UNFIT, "work(); role(0, 0, 1, 160, 170, 0); role(0, 0, 0, 150, 200, 0); partner(0, 0)"
                + Edges.RANGE, "dancer(0, 159, 50); learn(0, 0, 2); learn(0, 1, 2); evening(0, 0, 100); cast(0, 0, 0)"
                + Edges.UNFIT, "cast(0, 1, 0); promote(0); cast(0, 0, 0)" + Edges.UNFIT, "isSound() = true");
        edges.tell(42, "who was cast is hurt, and the phrase is another one", "step('b', 'b', 1, 0, 0); phrase(); work();"
                + "role(0, 0, 0, 150, 200, 0); dancer(0, 170, 50); evening(0, 0, 100); cast(0, 0, 0); hurt(0, 9);"
                + "add(0, 0, false); days(1); isSound() = true");
    }
}
