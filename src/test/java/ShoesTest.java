/** Promises 36 to 42: shoes and sums. */
public final class ShoesTest {
    private static final Check check = new Check();

    public static void main(String[] args) {
        shoes();
        shoesWornOut();
        minutes();
        leastLeftFirst();
        lastMinute();
        minutesOfCounts();
        bill();
        checksum();
        castShare();
        meanLoad();
        isSound();
        check.finish();
    }

    private static void shoes() {
        check.promise(36);
        Barrehouse x = house(4);
        for (int bad : new int[] {0, 10, -1, Integer.MAX_VALUE}) {
            check.fails(Check.RANGE, () -> x.shoes(0, bad, 1, 0));
        }
        for (int bad : new int[] {0, 6, -1, Integer.MAX_VALUE}) {
            check.fails(Check.RANGE, () -> x.shoes(0, 1, bad, 0));
        }
        for (int bad : new int[] {-1, 100, Integer.MIN_VALUE, Integer.MAX_VALUE}) {
            check.fails(Check.RANGE, () -> x.shoes(0, 1, 1, bad));
        }
        check.fails(Check.INDEX, () -> x.shoes(2, 1, 1, 0));
        check.fails(Check.INDEX, () -> x.shoes(-1, 0, 1, 0));
        check.same(0, x.bill());
        check.same(1, x.shoes(0, 1, 1, 0));
        check.same(10, x.shoes(0, 9, 5, 99));
        check.same(2, x.shoes(1, 2, 3, 1));
        check.same(12, x.shoes(0, 2, 2, 0));
        x.days(99);
        check.same(13, x.shoes(0, 1, 1, 5));
        check.same(3, x.shoes(1, 1, 1, 0));
    }

    private static void shoesWornOut() {
        check.promise(36);
        Barrehouse x = house(40);
        x.shoes(0, 2, 1, 0);
        x.shoes(0, 1, 1, 3);
        danceOn(x, 0);
        check.same(3, x.shoes(0, 1, 2, 0));
        danceOn(x, 0);
        check.same(3, x.shoes(0, 1, 5, 3));
        x.days(3);
        check.same(20 + 10 + 50, x.minutes(0));
        check.same(4, x.shoes(0, 1, 1, 0));
    }

    private static void minutes() {
        check.promise(37);
        Barrehouse x = house(4);
        check.fails(Check.INDEX, () -> x.minutes(2));
        check.fails(Check.INDEX, () -> x.minutes(-1));
        check.same(0, x.minutes(0));
        for (int hardness = 1; hardness <= 5; hardness++) {
            x.shoes(0, 2, hardness, hardness - 1);
        }
        int[] due = {20, 60, 120, 200, 300, 300};
        for (int day = 0; day < due.length; day++) {
            check.same(due[day], x.minutes(0));
            check.same(0, x.minutes(1));
            x.days(1);
        }
        x.shoes(1, 1, 1, 99);
        x.shoes(1, 1, 2, 98);
        x.days(97);
        check.same(0, x.minutes(1));
        x.days(1);
        check.same(20, x.minutes(1));
        x.days(1);
        check.same(30, x.minutes(1));
        x.shoes(1, 1, 5, 50);
        x.days(99);
        check.same(80, x.minutes(1));
    }

    private static void leastLeftFirst() {
        check.promise(33);
        Barrehouse x = house(16);
        // 4 minutes are taken from the pair of 10, though that of 50 came first: 6 and 50 are left.
        x.shoes(0, 1, 5, 0);
        x.shoes(0, 1, 1, 0);
        danceOn(x, 0);
        check.same(56, x.minutes(0));
        check.same(3, x.shoes(0, 1, 2, 9));
        danceOn(x, 0);
        check.same(52, x.minutes(0));
        // The pair with 2 left is worn out, the other 2 minutes come from that of 50.
        danceOn(x, 0);
        check.same(48, x.minutes(0));
        check.same(3, x.shoes(0, 1, 1, 1));
        // A pair that comes on the day 1 has 10 left, less than the 48.
        x.days(1);
        check.same(58, x.minutes(0));
        danceOn(x, 1);
        danceOn(x, 1);
        danceOn(x, 1);
        check.same(46, x.minutes(0));
        likeOnes();
    }

    private static void likeOnes() {
        Barrehouse x = house(16);
        x.shoes(0, 3, 1, 0);
        int[] pairs = {3, 3, 2, 2, 1, 1, 1};
        for (int times = 0; times < pairs.length; times++) {
            danceOn(x, 0);
            check.same(30 - 4 * (times + 1), x.minutes(0));
            // Of like pairs one is worn out ahead of the next, and those that wait are counted too.
            check.same(pairs[times] + times + 1, x.shoes(0, 1, 1, 99));
        }
        int evening = x.evening(0, 0, 100);
        x.cast(evening, 0, 0);
        check.fails(Check.UNFIT, () -> x.dance(evening));
    }

    private static void lastMinute() {
        check.promise(33);
        Barrehouse x = house(36);
        x.shoes(0, 1, 1, 0);
        danceOn(x, 0);
        check.same(1, x.minutes(0));
        check.same(2, x.shoes(0, 1, 1, 0));
        x.take(0);
        // 32 counts want 8 minutes: one of the pair with 1 left, 7 of the other one.
        danceOn(x, 0);
        check.same(3, x.minutes(0));
        check.same(2, x.shoes(0, 1, 1, 0));
    }

    private static void minutesOfCounts() {
        check.promise(33);
        int[] counts = {0, 1, 3, 4, 5, 7, 8, 9, 12, 13, 37, 96};
        int[] due = {0, 1, 1, 1, 2, 2, 2, 3, 3, 4, 10, 24};
        for (int at = 0; at < counts.length; at++) {
            Barrehouse x = house(counts[at]);
            if (due[at] > 0) {
                int evening = x.evening(0, 0, 100);
                x.cast(evening, 0, 0);
                check.fails(Check.UNFIT, () -> x.dance(evening));
            }
            x.shoes(0, 1, 5, 0);
            check.same(0, danceOn(x, 0));
            check.same(50 - due[at], x.minutes(0));
        }
    }

    private static void bill() {
        check.promise(38);
        Barrehouse x = house(4);
        check.same(0, x.bill());
        int sum = 0;
        for (int hardness = 1; hardness <= 5; hardness++) {
            x.shoes(0, hardness + 1, hardness, 5);
            sum += (hardness + 1) * (20 + 2 * hardness);
            check.same(sum, x.bill());
        }
        x.days(5);
        check.same(sum, x.bill());
        for (int rank = 0; rank <= 5; rank++) {
            danceOn(x, 5);
            sum += 50 + 50 * rank;
            check.same(sum, x.bill());
            if (rank < 5) {
                x.promote(0);
                check.same(sum, x.bill());
            }
        }
        x.learn(0, 0, 50);
        x.hurt(0, 1);
        check.same(sum, x.bill());
    }

    private static void checksum() {
        check.promise(39);
        Barrehouse x = new Barrehouse();
        check.same(7L * 31, x.checksum());
        x.step('b', 'b', 5, 0, 0);
        check.same(217L, x.checksum());
        x.phrase();
        check.same(7L * 31 * 31, x.checksum());
        x.add(0, 0, false);
        check.same((7L * 31 + 5) * 31, x.checksum());
        x.phrase();
        long phrases = (7L * 31 + 5) * 31;
        check.same(phrases * 31, x.checksum());
        x.dancer(1, 170, 50);
        x.dancer(0, 170, 50);
        x.shoes(1, 1, 2, 0);
        x.shoes(0, 1, 2, 1);
        check.same((((phrases * 31) * 31 * 31) * 31 + 20) * 31 + 48, x.checksum());
        x.work();
        x.role(0, 0, 0, 150, 200, 3);
        x.role(0, 1, 0, 150, 200, 0);
        x.learn(1, 0, 2);
        x.evening(0, 0, 100);
        x.evening(0, 3, 100);
        x.cast(0, 0, 1);
        long people = ((phrases * 31) * 31 * 31) * 31 + 20;
        long casts = (((people * 31 + 1) * 31 - 1) * 31 - 1) * 31 - 1;
        check.same(casts * 31 + 48, x.checksum());
        x.cast(0, 1, 0);
        x.dance(0);
        long after = ((phrases * 31) * 31 * 31 + 3) * 31 + 18;
        casts = (((after * 31 + 1) * 31) * 31 - 1) * 31 - 1;
        check.same(casts * 31 + 48 + 150, x.checksum());
    }

    private static void castShare() {
        check.promise(40);
        Barrehouse x = house(0);
        check.fails(Check.NONE, x::castShare);
        x.work();
        for (int number = 0; number < 3; number++) {
            x.role(1, 0, 0, 150, 200, 0);
        }
        check.fails(Check.NONE, x::castShare);
        x.evening(1, 0, 100);
        check.same(0f, x.castShare());
        x.cast(0, 2, 0);
        check.same(1f / 3f, x.castShare());
        x.cast(0, 3, 1);
        check.same(2f / 3f, x.castShare());
        x.drop(0, 2);
        check.same(1f / 3f, x.castShare());
        x.evening(0, 0, 100);
        x.cast(1, 0, 0);
        check.same(0.5f, x.castShare());
        x.dance(1);
        x.days(3);
        check.same(0.5f, x.castShare());
        x.evening(1, 5, 100);
        check.same(2f / 7f, x.castShare());
    }

    private static void meanLoad() {
        check.promise(41);
        Barrehouse none = new Barrehouse();
        check.fails(Check.NONE, none::meanLoad);
        Barrehouse x = house(0);
        check.same(0.0, x.meanLoad());
        danceOn(x, 0);
        check.same(1.0, x.meanLoad());
        danceOn(x, 0);
        x.dancer(0, 170, 50);
        check.same(4.0 / 3.0, x.meanLoad());
        x.days(1);
        check.same(0.0, x.meanLoad());
    }

    private static void isSound() {
        check.promise(42);
        Barrehouse x = house(7);
        check.same(true, x.isSound());
        x.step('l', 'r', 1, 0, 0);
        int other = x.phrase();
        for (int items = 0; items < 12; items++) {
            x.add(other, 8, items % 2 == 1);
        }
        x.mirror(other);
        check.same(true, x.isSound());
        x.work();
        x.role(1, other, 0, 150, 200, 0);
        x.role(1, other, 0, 160, 170, 0);
        x.partner(1, 2);
        x.evening(1, 0, 100);
        x.learn(0, 1, 50);
        x.learn(1, 2, 50);
        x.rehearse(0, 1, 5);
        x.cast(0, 1, 0);
        x.cast(0, 2, 1);
        check.same(true, x.isSound());
        x.promote(0);
        x.hurt(0, 9);
        x.take(other);
        x.days(9);
        check.same(true, x.isSound());
    }

    /** A work with one role of weight 2, whose phrase has so many counts, and two dancers who have learnt it. */
    private static Barrehouse house(int counts) {
        Barrehouse x = new Barrehouse();
        for (int step = 8; step >= 1; step--) {
            x.step('b', 'b', step, 0, 0);
        }
        x.phrase();
        int left = counts;
        while (left > 0) {
            int now = Math.min(left, 8);
            x.add(0, 8 - now, false);
            left -= now;
        }
        x.work();
        x.role(0, 0, 0, 150, 200, 2);
        for (int number = 0; number < 2; number++) {
            x.dancer(0, 170, 99);
            x.learn(number, 0, 50);
        }
        return x;
    }

    private static int danceOn(Barrehouse x, int day) {
        int evening = x.evening(0, day, 100);
        x.cast(evening, 0, 0);
        return x.dance(evening);
    }
}
