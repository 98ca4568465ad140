/** Promises 14 to 23: dancers and works. */
public final class DancersTest {
    private static final Check check = new Check();
    private static final int[] FAR = {Integer.MIN_VALUE, Integer.MAX_VALUE, -1};

    public static void main(String[] args) {
        dancer();
        promote();
        hurt();
        hurtAnew();
        load();
        work();
        role();
        roleOrder();
        partner();
        learn();
        isLearnt();
        rehearse();
        check.finish();
    }

    private static void dancer() {
        check.promise(14);
        Barrehouse x = new Barrehouse();
        for (int bad : new int[] {-1, 6, Integer.MIN_VALUE, Integer.MAX_VALUE}) {
            check.fails(Check.RANGE, () -> x.dancer(bad, 170, 50));
        }
        for (int bad : new int[] {149, 201, -170, Integer.MAX_VALUE}) {
            check.fails(Check.RANGE, () -> x.dancer(0, bad, 50));
        }
        for (int bad : new int[] {9, 100, -10, Integer.MAX_VALUE}) {
            check.fails(Check.RANGE, () -> x.dancer(0, 170, bad));
        }
        check.fails(Check.NONE, x::meanLoad);
        check.same(0, x.dancer(0, 150, 10));
        check.same(1, x.dancer(5, 200, 99));
        for (int number = 2; number < 12; number++) {
            check.same(number, x.dancer(1, 170, 50));
        }
        check.fails(Check.FULL, () -> x.dancer(1, 170, 50));
        check.fails(Check.RANGE, () -> x.dancer(6, 170, 50));
        check.fails(Check.RANGE, () -> x.dancer(1, 170, 100));
        check.same(0, x.load(11));
        check.same(0, x.minutes(11));
        check.fails(Check.INDEX, () -> x.load(12));
        check.same(1, x.promote(0));
        check.same(2, x.promote(2));
    }

    private static void promote() {
        check.promise(15);
        Barrehouse x = new Barrehouse();
        x.dancer(3, 170, 50);
        x.dancer(5, 170, 50);
        x.dancer(0, 170, 50);
        check.same(4, x.promote(0));
        check.same(5, x.promote(0));
        check.fails(Check.UNFIT, () -> x.promote(0));
        check.fails(Check.UNFIT, () -> x.promote(1));
        check.same(1, x.promote(2));
        check.fails(Check.INDEX, () -> x.promote(3));
        check.fails(Check.INDEX, () -> x.promote(-1));
        x.phrase();
        x.work();
        x.role(0, 0, 2, 150, 200, 0);
        x.evening(0, 0, 100);
        check.same('k', x.bars(0, 0, 2));
        x.promote(2);
        check.same('-', x.bars(0, 0, 2));
    }

    private static void hurt() {
        check.promise(16);
        Barrehouse x = simple(2, 0, 10);
        for (int bad : new int[] {0, 100, -1, Integer.MAX_VALUE}) {
            check.fails(Check.RANGE, () -> x.hurt(0, bad));
        }
        check.fails(Check.INDEX, () -> x.hurt(2, 1));
        check.fails(Check.INDEX, () -> x.hurt(-1, 0));
        x.learn(1, 0, 2);
        for (int day = 0; day < 6; day++) {
            x.evening(0, day, 100);
        }
        check.same(3, x.hurt(0, 3));
        for (int day = 0; day < 6; day++) {
            check.same(day < 3 ? 'i' : '-', x.bars(day, 0, 0));
            check.same('-', x.bars(day, 0, 1));
        }
        check.same(3, x.hurt(0, 1));
        check.same('i', x.bars(2, 0, 0));
        check.same(3, x.hurt(0, 3));
        check.same(5, x.hurt(0, 5));
        check.same('i', x.bars(4, 0, 0));
        check.same('-', x.bars(5, 0, 0));
        check.same(99, x.hurt(1, 99));
        x.days(4);
        check.same('i', x.bars(4, 0, 0));
        check.same(6, x.hurt(0, 2));
        check.same('i', x.bars(5, 0, 0));
        check.same(99, x.hurt(1, 95));
        check.same(100, x.hurt(1, 96));
    }

    private static void hurtAnew() {
        check.promise(16);
        Barrehouse x = simple(1, 0, 10);
        x.hurt(0, 2);
        x.days(5);
        x.evening(0, 5, 100);
        x.evening(0, 6, 100);
        x.evening(0, 7, 100);
        check.same('-', x.bars(0, 0, 0));
        check.same(7, x.hurt(0, 2));
        check.same('i', x.bars(0, 0, 0));
        check.same('i', x.bars(1, 0, 0));
        check.same('-', x.bars(2, 0, 0));
        // Hurt by dancing from tomorrow on, behind a hurt that is over, then hurt today.
        Barrehouse y = simple(1, 5, 10);
        y.shoes(0, 9, 5, 0);
        y.hurt(0, 2);
        y.days(5);
        check.same(0, danceOn(y, 5));
        check.same(0, danceOn(y, 5));
        check.same(1, danceOn(y, 5));
        check.same(1, danceOn(y, 5));
        y.evening(0, 5, 100);
        y.evening(0, 15, 100);
        y.evening(0, 16, 100);
        check.same('-', y.bars(4, 0, 0));
        check.same('i', y.bars(5, 0, 0));
        check.same('-', y.bars(6, 0, 0));
        check.same(16, y.hurt(0, 2));
        check.same('i', y.bars(4, 0, 0));
        check.same('-', y.bars(6, 0, 0));
        check.same(17, y.hurt(0, 12));
        check.same('i', y.bars(6, 0, 0));
    }

    private static void load() {
        check.promise(17);
        Barrehouse x = simple(2, 5, 99);
        x.shoes(0, 1, 1, 0);
        check.same(0, x.load(0));
        check.fails(Check.INDEX, () -> x.load(2));
        check.fails(Check.INDEX, () -> x.load(-1));
        danceOn(x, 0);
        check.same(5, x.load(0));
        danceOn(x, 0);
        danceOn(x, 0);
        check.same(15, x.load(0));
        check.same(0, x.load(1));
        x.days(1);
        check.same(10, x.load(0));
        danceOn(x, 1);
        check.same(15, x.load(0));
        x.days(2);
        check.same(5, x.load(0));
        x.days(3);
        check.same(0, x.load(0));
    }

    private static void work() {
        check.promise(18);
        Barrehouse x = new Barrehouse();
        x.phrase();
        for (int number = 0; number < 4; number++) {
            int made = number;
            check.fails(Check.INDEX, () -> x.role(made, 0, 0, 150, 200, 0));
            check.same(number, x.work());
            check.fails(Check.UNFIT, () -> x.evening(made, 0, 100));
        }
        check.fails(Check.FULL, x::work);
        check.fails(Check.INDEX, () -> x.role(4, 0, 0, 150, 200, 0));
    }

    private static void role() {
        check.promise(19);
        Barrehouse x = new Barrehouse();
        x.phrase();
        x.work();
        x.work();
        for (int far : FAR) {
            check.fails(Check.INDEX, () -> x.role(far, 0, 0, 150, 200, 0));
            check.fails(Check.INDEX, () -> x.role(0, far, 0, 150, 200, 0));
            check.fails(Check.RANGE, () -> x.role(0, 0, far, 150, 200, 0));
            check.fails(Check.RANGE, () -> x.role(0, 0, 0, far, 200, 0));
            check.fails(Check.RANGE, () -> x.role(0, 0, 0, 150, far, 0));
            check.fails(Check.RANGE, () -> x.role(0, 0, 0, 150, 200, far));
        }
        check.fails(Check.INDEX, () -> x.role(2, 0, 9, 150, 200, 0));
        check.fails(Check.INDEX, () -> x.role(0, 1, 9, 150, 200, 0));
        check.fails(Check.RANGE, () -> x.role(0, 0, 6, 150, 200, 0));
        check.fails(Check.RANGE, () -> x.role(0, 0, 0, 149, 200, 0));
        check.fails(Check.RANGE, () -> x.role(0, 0, 0, 150, 201, 0));
        check.fails(Check.RANGE, () -> x.role(0, 0, 0, 201, 201, 0));
        check.fails(Check.RANGE, () -> x.role(0, 0, 0, 149, 149, 0));
        check.fails(Check.RANGE, () -> x.role(0, 0, 0, 171, 170, 0));
        check.fails(Check.RANGE, () -> x.role(0, 0, 0, 150, 200, 10));
        check.same(0, x.role(0, 0, 5, 200, 200, 9));
        check.same(1, x.role(1, 0, 0, 150, 150, 0));
        check.same(2, x.role(0, 0, 0, 150, 200, 0));
        check.same(3, x.role(0, 0, 0, 150, 200, 0));
        check.same(4, x.role(0, 0, 0, 150, 200, 0));
        check.fails(Check.FULL, () -> x.role(0, 0, 0, 150, 200, 0));
        check.fails(Check.RANGE, () -> x.role(0, 0, 0, 150, 200, 10));
        check.same(5, x.role(1, 0, 0, 150, 200, 0));
        check.same(6, x.role(1, 0, 0, 150, 200, 0));
    }

    private static void roleOrder() {
        check.promise(19);
        Barrehouse x = new Barrehouse();
        x.phrase();
        x.work();
        x.work();
        for (int number = 0; number < 4; number++) {
            x.role(0, 0, 0, 150, 200, 0);
        }
        x.evening(0, 0, 100);
        check.fails(Check.UNFIT, () -> x.role(0, 0, 0, 150, 200, 0));
        check.fails(Check.RANGE, () -> x.role(0, 0, 0, 150, 200, -1));
        check.same(4, x.role(1, 0, 0, 150, 200, 0));
        x.evening(1, 3, 100);
        check.fails(Check.UNFIT, () -> x.role(1, 0, 0, 150, 200, 0));
        x.days(9);
        check.fails(Check.UNFIT, () -> x.role(1, 0, 0, 150, 200, 0));
    }

    private static void partner() {
        check.promise(20);
        Barrehouse x = new Barrehouse();
        x.phrase();
        x.work();
        x.work();
        for (int number = 0; number < 4; number++) {
            x.role(0, 0, 0, 150, 200, 0);
        }
        x.role(1, 0, 0, 150, 200, 0);
        x.role(1, 0, 0, 150, 200, 0);
        check.fails(Check.INDEX, () -> x.partner(0, 6));
        check.fails(Check.INDEX, () -> x.partner(6, 0));
        check.fails(Check.INDEX, () -> x.partner(-1, 0));
        check.fails(Check.INDEX, () -> x.partner(6, 6));
        check.fails(Check.RANGE, () -> x.partner(0, 0));
        check.fails(Check.RANGE, () -> x.partner(0, 4));
        check.fails(Check.RANGE, () -> x.partner(4, 0));
        check.same(1, x.partner(2, 0));
        check.fails(Check.UNFIT, () -> x.partner(2, 0));
        check.fails(Check.UNFIT, () -> x.partner(0, 1));
        check.fails(Check.UNFIT, () -> x.partner(1, 2));
        check.fails(Check.RANGE, () -> x.partner(0, 0));
        check.fails(Check.RANGE, () -> x.partner(0, 5));
        check.same(1, x.partner(4, 5));
        check.same(2, x.partner(1, 3));
        check.fails(Check.UNFIT, () -> x.partner(3, 1));
        check.same(true, x.isSound());
        x.dancer(0, 170, 50);
        x.dancer(0, 170, 50);
        x.evening(0, 0, 100);
        x.cast(0, 2, 0);
        check.same('p', x.bars(0, 0, 1));
        check.same('-', x.bars(0, 1, 1));
        x.drop(0, 2);
        x.cast(0, 0, 0);
        check.same('p', x.bars(0, 2, 1));
    }

    private static void learn() {
        check.promise(21);
        Barrehouse x = simple(2, 0, 50);
        x.phrase();
        x.add(1, 0, false);
        x.add(1, 0, false);
        x.work();
        x.role(1, 1, 0, 150, 200, 0);
        for (int bad : new int[] {0, 51, -1, Integer.MAX_VALUE}) {
            check.fails(Check.RANGE, () -> x.learn(0, 1, bad));
        }
        check.fails(Check.INDEX, () -> x.learn(2, 1, 1));
        check.fails(Check.INDEX, () -> x.learn(0, 2, 1));
        check.fails(Check.INDEX, () -> x.learn(-1, 1, 0));
        check.fails(Check.INDEX, () -> x.learn(0, -1, 0));
        check.same(3, x.learn(0, 1, 1));
        check.same(2, x.learn(0, 1, 1));
        check.same(0, x.learn(0, 1, 2));
        check.same(0, x.learn(0, 1, 2));
        check.same(3, x.learn(1, 1, 1));
        check.same(0, x.learn(0, 0, 50));
        // 6 hours were done, and 2 for each of 4 items are due.
        x.add(1, 0, false);
        x.add(1, 0, false);
        check.same(1, x.learn(0, 1, 1));
        x.take(1);
        check.same(0, x.learn(0, 1, 1));
        check.same(4, x.learn(1, 1, 1));
    }

    private static void isLearnt() {
        check.promise(22);
        Barrehouse x = simple(2, 0, 50);
        check.fails(Check.INDEX, () -> x.isLearnt(2, 0));
        check.fails(Check.INDEX, () -> x.isLearnt(-1, 0));
        check.fails(Check.INDEX, () -> x.isLearnt(0, 1));
        check.fails(Check.INDEX, () -> x.isLearnt(0, -1));
        check.same(false, x.isLearnt(1, 0));
        x.take(0);
        check.same(true, x.isLearnt(1, 0));
        x.add(0, 0, false);
        x.learn(1, 0, 1);
        check.same(false, x.isLearnt(1, 0));
        x.learn(1, 0, 1);
        check.same(true, x.isLearnt(1, 0));
        x.add(0, 0, false);
        check.same(false, x.isLearnt(1, 0));
        x.take(0);
        check.same(true, x.isLearnt(1, 0));
        check.same(true, x.isLearnt(0, 0));
    }

    private static void rehearse() {
        check.promise(23);
        Barrehouse x = simple(3, 0, 50);
        for (int bad : new int[] {0, 51, -1, Integer.MAX_VALUE}) {
            check.fails(Check.RANGE, () -> x.rehearse(0, 1, bad));
        }
        check.fails(Check.RANGE, () -> x.rehearse(1, 1, 5));
        check.fails(Check.INDEX, () -> x.rehearse(0, 3, 5));
        check.fails(Check.INDEX, () -> x.rehearse(3, 0, 5));
        check.fails(Check.INDEX, () -> x.rehearse(-1, -1, 0));
        check.same(50, x.rehearse(0, 1, 50));
        check.same(51, x.rehearse(1, 0, 1));
        check.same(53, x.rehearse(0, 1, 2));
        check.same(4, x.rehearse(0, 2, 4));
        check.same(1, x.rehearse(2, 1, 1));
        check.same(5, x.rehearse(2, 0, 1));
    }

    /** A work of one role, whose phrase has one item of 4 counts that the dancer 0 has learnt. */
    private static Barrehouse simple(int dancers, int weight, int stamina) {
        Barrehouse x = new Barrehouse();
        x.step('b', 'b', 4, 0, 0);
        x.phrase();
        x.add(0, 0, false);
        x.work();
        x.role(0, 0, 0, 150, 200, weight);
        for (int number = 0; number < dancers; number++) {
            x.dancer(0, 170, stamina);
            if (number == 0) {
                x.learn(number, 0, 2);
            }
        }
        return x;
    }

    private static int danceOn(Barrehouse x, int day) {
        int evening = x.evening(0, day, 100);
        x.cast(evening, 0, 0);
        return x.dance(evening);
    }
}
