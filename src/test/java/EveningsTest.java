/** Promises 24 to 35: evenings, casts, dancing and days. */
public final class EveningsTest {
    private static final Check check = new Check();

    public static void main(String[] args) {
        evening();
        eveningOrder();
        barsByPerson();
        barsOrder();
        barsPair();
        barsRest();
        cast();
        castInPlace();
        drop();
        who();
        isReady();
        isReadyTempo();
        casts();
        castsOfAll();
        castsBesideOthers();
        least();
        leastBesideOthers();
        leastOfMany();
        dance();
        danceRefused();
        danceIntoHurt();
        danceWithoutWeight();
        days();
        check.finish();
    }

    private static void evening() {
        check.promise(24);
        Barrehouse x = house(1, 0);
        x.work();
        for (int far : new int[] {-1, 2, Integer.MIN_VALUE, Integer.MAX_VALUE}) {
            check.fails(Check.INDEX, () -> x.evening(far, 0, 100));
        }
        for (int bad : new int[] {-1, 1000, Integer.MIN_VALUE, Integer.MAX_VALUE}) {
            check.fails(Check.RANGE, () -> x.evening(0, bad, 100));
        }
        for (int bad : new int[] {39, 201, Integer.MIN_VALUE, Integer.MAX_VALUE}) {
            check.fails(Check.RANGE, () -> x.evening(0, 0, bad));
        }
        check.fails(Check.RANGE, () -> x.evening(1, 0, 39));
        check.fails(Check.UNFIT, () -> x.evening(1, 0, 40));
        check.fails(Check.NONE, x::castShare);
        check.same(0, x.evening(0, 0, 40));
        check.same(1, x.evening(0, 999, 200));
        x.days(5);
        check.fails(Check.RANGE, () -> x.evening(0, 4, 100));
        check.same(2, x.evening(0, 5, 100));
        for (int number = 3; number < 11; number++) {
            check.same(number, x.evening(0, 5, 100));
        }
        check.fails(Check.FULL, () -> x.evening(0, 5, 100));
    }

    private static void eveningOrder() {
        check.promise(24);
        Barrehouse x = house(1, 0);
        x.work();
        for (int number = 0; number < 11; number++) {
            x.evening(0, 5, 100);
        }
        check.fails(Check.UNFIT, () -> x.evening(1, 5, 100));
        check.fails(Check.RANGE, () -> x.evening(1, 1000, 100));
        check.fails(Check.INDEX, () -> x.evening(2, 1000, 100));
        check.fails(Check.INDEX, () -> x.isReady(11));
        check.fails(Check.INDEX, () -> x.isReady(-1));
    }

    private static void barsByPerson() {
        check.promise(25);
        Barrehouse x = new Barrehouse();
        x.phrase();
        x.work();
        x.role(0, 0, 2, 160, 180, 0);
        x.work();
        x.role(1, 0, 0, 150, 200, 0);
        x.evening(0, 3, 100);
        int[] heights = {159, 160, 170, 180, 181, 150, 200};
        for (int height : heights) {
            x.dancer(2, height, 50);
        }
        for (int number = 0; number < heights.length; number++) {
            boolean isFit = heights[number] >= 160 && heights[number] <= 180;
            check.same(isFit ? '-' : 'h', x.bars(0, 0, number));
        }
        x.dancer(1, 170, 50);
        x.dancer(5, 170, 50);
        check.same('k', x.bars(0, 0, 7));
        check.same('-', x.bars(0, 0, 8));
        check.fails(Check.INDEX, () -> x.bars(0, 1, 8));
        check.fails(Check.INDEX, () -> x.bars(0, 2, 8));
        check.fails(Check.INDEX, () -> x.bars(0, -1, 8));
        check.fails(Check.INDEX, () -> x.bars(1, 0, 8));
        check.fails(Check.INDEX, () -> x.bars(-1, 0, 8));
        check.fails(Check.INDEX, () -> x.bars(0, 0, 9));
        check.fails(Check.INDEX, () -> x.bars(0, 0, -1));
        x.days(3);
        check.same('-', x.bars(0, 0, 8));
        x.days(1);
        check.same('d', x.bars(0, 0, 8));
        check.same('d', x.bars(0, 0, 7));
    }

    /** Each letter stands ahead of all that come behind it: they are taken away one by one. */
    private static void barsOrder() {
        check.promise(25);
        Barrehouse x = new Barrehouse();
        x.step('b', 'b', 4, 0, 0);
        x.phrase();
        x.phrase();
        x.work();
        x.role(0, 0, 1, 150, 170, 6);
        x.role(0, 0, 0, 150, 200, 6);
        x.role(0, 1, 0, 150, 200, 0);
        x.partner(0, 1);
        x.dancer(0, 171, 10);
        x.dancer(0, 170, 10);
        x.dancer(0, 170, 10);
        x.evening(0, 4, 100);
        x.evening(0, 5, 100);
        x.cast(1, 1, 1);
        x.cast(0, 2, 0);
        x.cast(0, 1, 2);
        x.cast(1, 2, 0);
        x.cast(0, 2, 1);
        x.add(0, 0, false);
        x.hurt(0, 5);
        x.hurt(1, 5);
        check.same('i', x.bars(0, 0, 0));
        check.same('i', x.bars(0, 0, 1));
        check.same('k', x.bars(1, 0, 0));
        x.promote(0);
        check.same('h', x.bars(1, 0, 0));
        check.same('k', x.bars(1, 0, 1));
        x.promote(1);
        check.same('i', x.bars(0, 0, 1));
        check.same('n', x.bars(1, 0, 1));
        x.promote(2);
        check.same('n', x.bars(1, 0, 2));
        x.learn(2, 0, 2);
        check.same('p', x.bars(1, 0, 2));
        x.rehearse(2, 1, 5);
        check.same('r', x.bars(1, 0, 2));
        x.drop(0, 1);
        check.same('-', x.bars(1, 0, 2));
        x.learn(1, 0, 2);
        check.same('o', x.bars(1, 0, 1));
        x.days(5);
        check.same('d', x.bars(0, 0, 1));
    }

    private static void barsPair() {
        check.promise(25);
        Barrehouse x = house(3, 0, 0, 0);
        x.dancer(0, 170, 50);
        x.dancer(0, 170, 50);
        x.partner(0, 2);
        x.evening(0, 0, 100);
        check.same('-', x.bars(0, 0, 0));
        x.cast(0, 2, 1);
        check.same('p', x.bars(0, 0, 0));
        check.same('-', x.bars(0, 1, 0));
        check.same('o', x.bars(0, 0, 1));
        check.same('-', x.bars(0, 2, 1));
        x.rehearse(0, 1, 4);
        check.same('p', x.bars(0, 0, 0));
        x.rehearse(1, 0, 1);
        check.same('-', x.bars(0, 0, 0));
        check.same('p', x.bars(0, 0, 2));
        // The evening of another cast of the work does not matter.
        x.evening(0, 0, 100);
        check.same('-', x.bars(1, 0, 2));
        x.cast(0, 0, 0);
        check.same('p', x.bars(0, 2, 2));
        check.same('-', x.bars(0, 2, 1));
    }

    private static void barsRest() {
        check.promise(25);
        Barrehouse x = house(2, 6, 5);
        x.phrase();
        for (int day = 2; day <= 8; day++) {
            x.evening(0, day, 100);
        }
        x.evening(0, 5, 100);
        x.cast(3, 0, 0);
        char[] due = {'-', '-', 'r', '-', 'r', '-', '-'};
        for (int number = 0; number < due.length; number++) {
            check.same(due[number], x.bars(number, 0, 0));
            check.same(number == 3 ? 'o' : '-', x.bars(number, 1, 0));
            check.same('-', x.bars(number, 0, 1));
        }
        check.same('r', x.bars(7, 0, 0));
        check.same('-', x.bars(7, 1, 0));
        x.drop(3, 0);
        x.cast(3, 1, 0);
        check.same('-', x.bars(2, 0, 0));
        check.same('-', x.bars(7, 0, 0));
        // One that was danced, and one that was not on a day that is over, count too.
        Barrehouse y = house(2, 6);
        y.shoes(0, 9, 5, 0);
        y.evening(0, 0, 100);
        y.evening(0, 0, 100);
        y.evening(0, 1, 100);
        y.cast(0, 0, 0);
        y.cast(1, 0, 1);
        y.dance(0);
        check.same('r', y.bars(2, 0, 0));
        y.days(1);
        check.same('r', y.bars(2, 0, 0));
        check.same('r', y.bars(2, 0, 1));
        y.drop(1, 0);
        check.same('-', y.bars(2, 0, 1));
    }

    private static void cast() {
        check.promise(26);
        Barrehouse x = house(3, 0, 0);
        x.work();
        x.phrase();
        x.role(1, 0, 0, 150, 200, 0);
        x.evening(0, 0, 100);
        check.same(-1, x.cast(0, 0, 1));
        check.same(1, x.who(0, 0));
        check.same(1, x.cast(0, 0, 0));
        check.same(0, x.who(0, 0));
        check.fails(Check.UNFIT, () -> x.cast(0, 0, 0));
        check.fails(Check.UNFIT, () -> x.cast(0, 1, 0));
        check.fails(Check.NONE, () -> x.who(0, 1));
        check.same(-1, x.cast(0, 1, 1));
        check.same(0, x.cast(0, 0, 2));
        check.same(1, x.cast(0, 1, 0));
        check.fails(Check.INDEX, () -> x.cast(1, 0, 0));
        check.fails(Check.INDEX, () -> x.cast(-1, 0, 0));
        check.fails(Check.INDEX, () -> x.cast(0, 2, 0));
        check.fails(Check.INDEX, () -> x.cast(0, 3, 0));
        check.fails(Check.INDEX, () -> x.cast(0, -1, 0));
        check.fails(Check.INDEX, () -> x.cast(0, 0, 3));
        check.fails(Check.INDEX, () -> x.cast(0, 0, -1));
        x.days(1);
        check.fails(Check.UNFIT, () -> x.cast(0, 0, 1));
        check.same(2, x.who(0, 0));
    }

    /** The dancer in whose place another one comes does not bar that one. */
    private static void castInPlace() {
        check.promise(26);
        Barrehouse x = house(3, 6, 0);
        x.partner(0, 1);
        x.rehearse(0, 1, 5);
        x.rehearse(0, 2, 5);
        x.evening(0, 0, 100);
        x.cast(0, 0, 0);
        x.cast(0, 1, 1);
        check.same(1, x.cast(0, 1, 2));
        check.fails(Check.UNFIT, () -> x.cast(0, 0, 1));
        check.fails(Check.UNFIT, () -> x.cast(0, 0, 2));
        check.same(0, x.who(0, 0));
        check.same(2, x.who(0, 1));
        x.rehearse(1, 2, 5);
        check.same(0, x.cast(0, 0, 1));
    }

    private static void drop() {
        check.promise(27);
        Barrehouse x = house(2, 0, 0);
        x.phrase();
        x.work();
        x.role(1, 0, 0, 150, 200, 0);
        x.shoes(0, 1, 1, 0);
        x.shoes(1, 1, 1, 0);
        x.evening(0, 0, 100);
        x.evening(0, 0, 100);
        check.fails(Check.UNFIT, () -> x.drop(0, 0));
        check.fails(Check.INDEX, () -> x.drop(2, 0));
        check.fails(Check.INDEX, () -> x.drop(-1, 0));
        check.fails(Check.INDEX, () -> x.drop(0, 2));
        check.fails(Check.INDEX, () -> x.drop(0, 3));
        check.fails(Check.INDEX, () -> x.drop(0, -1));
        x.cast(0, 0, 1);
        x.cast(0, 1, 0);
        x.cast(1, 1, 1);
        check.same(1, x.drop(0, 0));
        check.fails(Check.UNFIT, () -> x.drop(0, 0));
        check.same(0, x.who(0, 1));
        check.fails(Check.NONE, () -> x.who(0, 0));
        x.cast(0, 0, 1);
        x.dance(0);
        check.fails(Check.UNFIT, () -> x.drop(0, 0));
        check.fails(Check.UNFIT, () -> x.drop(0, 1));
        check.same(1, x.who(0, 0));
        x.days(2);
        check.same(1, x.drop(1, 1));
    }

    private static void who() {
        check.promise(28);
        Barrehouse x = house(2, 0, 0);
        x.phrase();
        x.work();
        x.role(1, 0, 0, 150, 200, 0);
        x.evening(1, 0, 100);
        x.evening(0, 0, 100);
        check.fails(Check.NONE, () -> x.who(0, 2));
        check.fails(Check.INDEX, () -> x.who(0, 0));
        check.fails(Check.INDEX, () -> x.who(1, 2));
        check.fails(Check.INDEX, () -> x.who(1, 3));
        check.fails(Check.INDEX, () -> x.who(2, 0));
        check.fails(Check.INDEX, () -> x.who(-1, 0));
        check.fails(Check.INDEX, () -> x.who(1, -1));
        x.cast(0, 2, 1);
        x.cast(1, 1, 1);
        check.same(1, x.who(0, 2));
        check.same(1, x.who(1, 1));
        check.fails(Check.NONE, () -> x.who(1, 0));
        x.days(9);
        check.same(1, x.who(0, 2));
    }

    private static void isReady() {
        check.promise(29);
        Barrehouse x = house(2, 0, 0);
        x.step('b', 'b', 1, 0, 0);
        x.partner(0, 1);
        x.rehearse(0, 1, 5);
        x.evening(0, 0, 100);
        x.evening(0, 1, 100);
        check.same(false, x.isReady(0));
        x.cast(0, 0, 0);
        check.same(false, x.isReady(0));
        x.cast(0, 1, 1);
        check.same(true, x.isReady(0));
        x.add(0, 0, false);
        check.same(false, x.isReady(0));
        x.take(0);
        check.same(true, x.isReady(0));
        x.shoes(0, 1, 1, 0);
        x.dance(0);
        check.same(true, x.isReady(0));
        x.add(0, 0, false);
        check.same(true, x.isReady(0));
        x.take(0);
        x.cast(1, 0, 1);
        x.cast(1, 1, 0);
        check.same(true, x.isReady(1));
        x.hurt(0, 1);
        check.same(true, x.isReady(1));
        x.hurt(0, 2);
        check.same(false, x.isReady(1));
        x.days(2);
        check.same(true, x.isReady(0));
        check.same(false, x.isReady(1));
        check.fails(Check.INDEX, () -> x.isReady(2));
        check.fails(Check.INDEX, () -> x.isReady(-1));
        // A partner that is told behind the casting bars too.
        Barrehouse y = house(2, 0, 0);
        y.evening(0, 0, 100);
        y.cast(0, 0, 0);
        y.cast(0, 1, 1);
        check.same(true, y.isReady(0));
        y.partner(1, 0);
        check.same(false, y.isReady(0));
        y.rehearse(1, 0, 5);
        check.same(true, y.isReady(0));
    }

    private static void isReadyTempo() {
        check.promise(29);
        Barrehouse x = house(2, 0);
        x.step('b', 'b', 1, 0, 0);
        x.step('b', 'b', 1, 0, 0);
        x.learn(0, 0, 4);
        x.tempi(0, 60, 90);
        int[] tempi = {59, 60, 90, 91};
        for (int number = 0; number < tempi.length; number++) {
            x.evening(0, 0, tempi[number]);
            x.cast(number, 0, 0);
            check.same(true, x.isReady(number));
        }
        x.add(0, 0, false);
        for (int number = 0; number < tempi.length; number++) {
            check.same(number == 1 || number == 2, x.isReady(number));
        }
        x.add(0, 1, false);
        x.tempi(1, 61, 200);
        check.same(false, x.isReady(1));
        check.same(true, x.isReady(2));
        x.tempi(1, 40, 60);
        check.same(true, x.isReady(1));
        check.same(false, x.isReady(2));
        x.tempi(1, 91, 200);
        for (int number = 0; number < tempi.length; number++) {
            check.same(false, x.isReady(number));
        }
    }

    private static void casts() {
        check.promise(30);
        Barrehouse x = house(0, 0, 0);
        x.step('b', 'b', 1, 0, 0);
        x.evening(0, 1, 100);
        check.same(0, x.casts(0));
        x.dancer(0, 170, 50);
        check.same(0, x.casts(0));
        x.dancer(0, 170, 50);
        check.same(2, x.casts(0));
        x.dancer(0, 170, 50);
        check.same(6, x.casts(0));
        x.partner(1, 0);
        check.same(0, x.casts(0));
        x.rehearse(0, 2, 5);
        check.same(2, x.casts(0));
        x.rehearse(1, 2, 4);
        check.same(2, x.casts(0));
        x.rehearse(1, 2, 1);
        check.same(4, x.casts(0));
        x.hurt(2, 1);
        check.same(4, x.casts(0));
        x.hurt(2, 2);
        check.same(0, x.casts(0));
        x.rehearse(0, 1, 9);
        check.same(2, x.casts(0));
        x.add(0, 0, false);
        check.same(0, x.casts(0));
        x.learn(0, 0, 2);
        x.learn(0, 1, 2);
        x.learn(1, 0, 2);
        check.same(1, x.casts(0));
        check.fails(Check.INDEX, () -> x.casts(1));
        check.fails(Check.INDEX, () -> x.casts(-1));
        x.days(1);
        check.same(1, x.casts(0));
        x.days(1);
        check.same(0, x.casts(0));
    }

    private static void castsOfAll() {
        check.promise(30);
        Barrehouse x = house(12, 0, 0, 0, 0);
        x.evening(0, 0, 100);
        check.same(12 * 11 * 10 * 9, x.casts(0));
        x.partner(0, 3);
        check.same(0, x.casts(0));
        x.rehearse(3, 7, 5);
        check.same(2 * 10 * 9, x.casts(0));
        x.partner(2, 1);
        x.rehearse(11, 10, 5);
        x.rehearse(11, 9, 5);
        check.same(2 * 4 * 2, x.casts(0));
        Barrehouse y = house(5, 0, 0, 0);
        y.work();
        y.role(1, 0, 0, 150, 200, 0);
        y.evening(0, 0, 100);
        y.evening(1, 0, 100);
        check.same(5 * 4 * 3, y.casts(0));
        check.same(5, y.casts(1));
        y.hurt(3, 1);
        check.same(4 * 3 * 2, y.casts(0));
        check.same(4, y.casts(1));
    }

    /** The own evening's castings do not count, those of other evenings do. */
    private static void castsBesideOthers() {
        check.promise(30);
        Barrehouse x = house(3, 6, 0);
        x.evening(0, 1, 100);
        x.evening(0, 2, 100);
        x.evening(0, 3, 100);
        x.cast(0, 0, 0);
        x.cast(0, 1, 1);
        check.same(6, x.casts(0));
        check.same(4, x.casts(1));
        check.same(6, x.casts(2));
        x.cast(2, 0, 2);
        check.same(2, x.casts(1));
        check.same(6, x.casts(0));
        x.days(1);
        x.shoes(0, 1, 1, 0);
        x.dance(0);
        check.same(0, x.casts(0));
        check.same(2, x.casts(1));
    }

    private static void least() {
        check.promise(31);
        Barrehouse x = house(0, 0, 0);
        x.step('b', 'b', 1, 0, 0);
        x.add(0, 0, false);
        x.evening(0, 0, 100);
        noLeast(x, 0);
        x.dancer(0, 170, 50);
        noLeast(x, 0);
        x.dancer(0, 170, 50);
        hasLeast(x, 0, 4, 0, 1);
        x.learn(0, 1, 1);
        hasLeast(x, 0, 3, 1, 0);
        x.learn(1, 1, 1);
        hasLeast(x, 0, 3, 0, 1);
        x.partner(0, 1);
        hasLeast(x, 0, 8, 0, 1);
        x.rehearse(0, 1, 3);
        hasLeast(x, 0, 5, 0, 1);
        x.dancer(0, 170, 50);
        x.learn(2, 0, 2);
        hasLeast(x, 0, 5, 0, 1);
        x.rehearse(2, 1, 2);
        hasLeast(x, 0, 4, 2, 1);
        x.rehearse(2, 0, 2);
        hasLeast(x, 0, 4, 2, 0);
        x.rehearse(2, 0, 50);
        x.learn(0, 1, 9);
        hasLeast(x, 0, 0, 2, 0);
        check.promise(31);
        check.fails(Check.INDEX, () -> x.least(1));
        check.fails(Check.INDEX, () -> x.least(-1));
        check.promise(32);
        check.fails(Check.INDEX, () -> x.leastFor(1, 0));
        check.fails(Check.INDEX, () -> x.leastFor(-1, 0));
        check.fails(Check.INDEX, () -> x.leastFor(0, 2));
        check.fails(Check.INDEX, () -> x.leastFor(0, -1));
        x.work();
        x.role(1, 0, 0, 150, 200, 0);
        check.fails(Check.INDEX, () -> x.leastFor(0, 2));
        x.days(1);
        noLeast(x, 0);
        check.fails(Check.INDEX, () -> x.leastFor(0, 2));
    }

    /** All but 'n' and 'p' bar from a cast with rehearsals, those that come behind these two as well. */
    private static void leastBesideOthers() {
        Barrehouse x = house(3, 6, 0);
        x.step('b', 'b', 1, 0, 0);
        x.evening(0, 1, 100);
        x.evening(0, 2, 100);
        x.cast(0, 0, 0);
        x.add(0, 0, false);
        hasLeast(x, 1, 4, 1, 0);
        hasLeast(x, 0, 4, 0, 1);
        x.hurt(1, 3);
        hasLeast(x, 1, 4, 2, 0);
        hasLeast(x, 0, 4, 0, 2);
        x.learn(2, 0, 50);
        hasLeast(x, 0, 2, 2, 0);
        x.hurt(2, 3);
        noLeast(x, 0);
        noLeast(x, 1);
        Barrehouse y = house(2, 0);
        y.evening(0, 0, 100);
        y.cast(0, 0, 1);
        hasLeast(y, 0, 0, 0);
        y.dance(0);
        noLeast(y, 0);
        Barrehouse z = new Barrehouse();
        z.phrase();
        z.work();
        z.role(0, 0, 1, 150, 200, 0);
        z.role(0, 0, 0, 170, 170, 0);
        z.dancer(0, 169, 50);
        z.dancer(0, 170, 50);
        z.evening(0, 0, 100);
        noLeast(z, 0);
        z.promote(1);
        noLeast(z, 0);
        z.promote(0);
        hasLeast(z, 0, 0, 0, 1);
    }

    /** A search of few roles behind one of many, and another one of many. */
    private static void leastOfMany() {
        Barrehouse x = house(12, 0, 0, 0, 0);
        x.step('b', 'b', 1, 0, 0);
        x.phrase();
        x.work();
        x.role(1, 1, 0, 150, 200, 0);
        x.role(1, 0, 0, 150, 200, 0);
        for (int items = 0; items < 12; items++) {
            x.add(0, 0, items % 2 == 0);
        }
        x.evening(0, 0, 100);
        x.evening(1, 0, 100);
        hasLeast(x, 0, 96, 0, 1, 2, 3);
        x.partner(0, 3);
        x.partner(1, 2);
        hasLeast(x, 0, 106, 0, 1, 2, 3);
        x.rehearse(4, 9, 5);
        hasLeast(x, 0, 101, 0, 4, 9, 1);
        check.promise(31);
        check.same(24, x.least(1));
        check.promise(32);
        check.same(0, x.leastFor(1, 4));
        check.same(1, x.leastFor(1, 5));
        x.learn(1, 5, 23);
        x.learn(0, 5, 23);
        check.same(1, x.leastFor(1, 5));
        x.learn(0, 5, 1);
        check.same(0, x.leastFor(1, 5));
        check.same(1, x.leastFor(1, 4));
        check.promise(31);
        check.same(0, x.least(1));
        x.learn(11, 2, 24);
        hasLeast(x, 0, 77, 4, 0, 11, 9);
    }

    private static void dance() {
        check.promise(33);
        Barrehouse x = house(3, 4, 9);
        x.step('b', 'b', 5, 0, 0);
        x.phrase();
        x.add(0, 0, false);
        x.learn(0, 0, 2);
        x.learn(1, 1, 2);
        x.shoes(0, 1, 1, 0);
        x.shoes(1, 1, 1, 0);
        x.promote(1);
        x.promote(1);
        x.promote(1);
        x.evening(0, 0, 100);
        x.cast(0, 0, 0);
        x.cast(0, 1, 1);
        int before = x.bill();
        check.same(0, x.dance(0));
        check.same(4, x.load(0));
        check.same(9, x.load(1));
        check.same(0, x.load(2));
        check.same(8, x.minutes(0));
        check.same(8, x.minutes(1));
        check.same(before + 50 + 200, x.bill());
        check.same('d', x.bars(0, 0, 2));
        check.fails(Check.UNFIT, () -> x.dance(0));
        check.fails(Check.INDEX, () -> x.dance(1));
        check.fails(Check.INDEX, () -> x.dance(-1));
        check.same(before + 250, x.bill());
        x.promote(1);
        check.same(before + 250, x.bill());
    }

    private static void danceRefused() {
        check.promise(33);
        Barrehouse x = house(2, 5, 5);
        x.step('b', 'b', 8, 0, 0);
        x.phrase();
        x.evening(0, 2, 100);
        x.cast(0, 0, 0);
        check.fails(Check.UNFIT, () -> x.dance(0));
        x.cast(0, 1, 1);
        check.same(true, x.isReady(0));
        check.fails(Check.UNFIT, () -> x.dance(0));
        x.days(1);
        check.fails(Check.UNFIT, () -> x.dance(0));
        x.add(0, 0, false);
        for (int number = 0; number < 2; number++) {
            x.learn(number, 0, 50);
            x.learn(number, 1, 50);
        }
        x.add(0, 0, false);
        x.add(0, 0, false);
        x.add(0, 0, false);
        x.add(0, 0, false);
        x.add(0, 0, false);
        x.shoes(0, 1, 5, 0);
        x.days(1);
        // 48 counts want 12 minutes, and the dancer 1 has 10 of them.
        x.shoes(1, 1, 1, 0);
        long sum = x.checksum();
        check.fails(Check.UNFIT, () -> x.dance(0));
        check.same(sum, x.checksum());
        x.shoes(1, 1, 1, 1);
        check.fails(Check.UNFIT, () -> x.dance(0));
        x.take(0);
        // 40 counts want all 10.
        x.tempi(0, 40, 99);
        check.fails(Check.UNFIT, () -> x.dance(0));
        x.tempi(0, 40, 100);
        x.hurt(0, 1);
        check.fails(Check.UNFIT, () -> x.dance(0));
        Barrehouse y = house(1, 0);
        y.evening(0, 1, 100);
        y.cast(0, 0, 0);
        y.days(2);
        check.fails(Check.UNFIT, () -> y.dance(0));
    }

    private static void danceIntoHurt() {
        check.promise(33);
        Barrehouse x = house(2, 5, 9);
        x.dancer(0, 170, 10);
        x.dancer(0, 170, 15);
        for (int number = 0; number < 5; number++) {
            x.evening(0, 0, 100);
        }
        x.cast(0, 0, 2);
        x.cast(0, 1, 3);
        check.same(0, x.dance(0));
        x.cast(1, 0, 2);
        x.cast(1, 1, 0);
        check.same(0, x.dance(1));
        check.same(10, x.load(2));
        x.cast(2, 0, 2);
        x.cast(2, 1, 1);
        check.same(1, x.dance(2));
        check.same(15, x.load(2));
        x.evening(0, 1, 100);
        x.evening(0, 5, 100);
        x.evening(0, 6, 100);
        check.same('-', x.bars(3, 0, 2));
        check.same('i', x.bars(5, 0, 2));
        check.same('i', x.bars(6, 0, 2));
        check.same('-', x.bars(7, 0, 2));
        check.same('-', x.bars(5, 0, 3));
        x.cast(3, 0, 3);
        check.same(9, x.load(3));
        x.cast(3, 1, 2);
        check.same(1, x.dance(3));
        check.same(24, x.load(2));
        check.same(14, x.load(3));
        check.same('i', x.bars(7, 0, 2));
        check.same(15, x.hurt(2, 1));
    }

    /** A load above the stamina hurts whoever dances, in a role without weight as well. */
    private static void danceWithoutWeight() {
        check.promise(33);
        Barrehouse x = house(0, 5, 0);
        x.dancer(0, 170, 10);
        x.dancer(5, 170, 10);
        for (int number = 0; number < 4; number++) {
            x.evening(0, 0, 100);
        }
        for (int number = 0; number < 3; number++) {
            x.cast(number, 0, 0);
            x.cast(number, 1, 1);
            check.same(number == 2 ? 1 : 0, x.dance(number));
        }
        check.same(3 * 50 + 3 * 300, x.bill());
        x.cast(3, 0, 1);
        x.cast(3, 1, 0);
        check.same(1, x.dance(3));
        check.same(15, x.load(0));
        check.same(5, x.load(1));
        check.same(6, x.hurt(0, 1));
        check.same(1, x.hurt(1, 1));
    }

    private static void days() {
        check.promise(34);
        Barrehouse x = new Barrehouse();
        for (int bad : new int[] {0, 100, -1, Integer.MIN_VALUE, Integer.MAX_VALUE}) {
            check.fails(Check.RANGE, () -> x.days(bad));
        }
        check.promise(35);
        check.same(0, x.day());
        check.promise(34);
        check.same(1, x.days(1));
        check.same(100, x.days(99));
        check.promise(35);
        check.same(100, x.day());
        check.promise(34);
        for (int times = 1; times <= 9; times++) {
            check.same(100 + 99 * times, x.days(99));
        }
        check.same(991, x.day());
        check.fails(Check.FULL, () -> x.days(9));
        check.fails(Check.FULL, () -> x.days(99));
        check.fails(Check.RANGE, () -> x.days(100));
        check.promise(35);
        check.same(991, x.day());
        check.promise(34);
        check.same(999, x.days(8));
        check.fails(Check.FULL, () -> x.days(1));
        check.promise(35);
        check.same(999, x.day());
    }

    private static void noLeast(Barrehouse x, int evening) {
        check.promise(31);
        check.fails(Check.NONE, () -> x.least(evening));
        check.promise(32);
        check.fails(Check.NONE, () -> x.leastFor(evening, 0));
    }

    private static void hasLeast(Barrehouse x, int evening, int hours, int... dancers) {
        check.promise(31);
        check.same(hours, x.least(evening));
        check.promise(32);
        for (int role = 0; role < dancers.length; role++) {
            check.same(dancers[role], x.leastFor(evening, role));
        }
    }

    /** A work with a role of each weight, all of a phrase without items, and dancers who suit all of them. */
    private static Barrehouse house(int dancers, int... weights) {
        Barrehouse x = new Barrehouse();
        x.phrase();
        x.work();
        for (int weight : weights) {
            x.role(0, 0, 0, 150, 200, weight);
        }
        for (int number = 0; number < dancers; number++) {
            x.dancer(0, 170, 99);
        }
        return x;
    }
}
