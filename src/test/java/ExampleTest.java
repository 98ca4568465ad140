/** The example of the document, call by call. */
public final class ExampleTest {
    private static final Check check = new Check();

    public static void main(String[] args) {
        Barrehouse x = new Barrehouse();
        stepsAndDancers(x);
        evenings(x);
        check.finish();
    }

    private static void stepsAndDancers(Barrehouse x) {
        check.same(0, x.step('l', 'r', 2, 1, 0));
        check.same(1, x.step('r', 'b', 3, 0, 1));
        check.same(40, x.tempi(1, 60, 90));
        check.same(0, x.phrase());
        check.same(2, x.add(0, 0, false));
        check.same(5, x.add(0, 1, false));
        check.same('b', x.weight(0, true));
        check.same(60, x.tempo(0, true));
        check.same(1, x.place(0, 4, false));
        check.same(1, x.mirror(0));
        check.same(2, x.changes(0, 1));
        check.fails(Check.NONE, () -> x.bridge(0, 0));
        check.same(2, x.meets(0, 1, 2, 0));
        check.same(2, x.take(1));
        check.same(0, x.dancer(1, 170, 10));
        check.same(1, x.dancer(2, 180, 12));
        check.same(2, x.dancer(0, 165, 20));
        check.same(1, x.promote(2));
        check.same(0, x.work());
        check.same(0, x.role(0, 0, 0, 160, 200, 7));
        check.same(1, x.role(0, 1, 1, 150, 190, 4));
        check.same(1, x.partner(0, 1));
        check.same(0, x.learn(0, 0, 4));
        check.same(1, x.learn(1, 1, 1));
        check.same(false, x.isLearnt(1, 1));
        check.same(4, x.rehearse(0, 1, 4));
    }

    private static void evenings(Barrehouse x) {
        check.same(0, x.evening(0, 0, 80));
        check.same('n', x.bars(0, 1, 2));
        check.same(-1, x.cast(0, 0, 0));
        check.same(0, x.who(0, 0));
        check.same(2, x.least(0));
        check.same(1, x.leastFor(0, 1));
        check.same(0, x.learn(1, 1, 1));
        check.same(5, x.rehearse(0, 1, 1));
        check.same(1, x.casts(0));
        check.same(-1, x.cast(0, 1, 1));
        check.same(true, x.isReady(0));
        check.same(1, x.shoes(0, 1, 1, 0));
        check.same(2, x.shoes(1, 2, 2, 0));
        check.same(0, x.dance(0));
        check.same(7, x.load(0));
        check.same(39, x.minutes(1));
        check.same(2, x.hurt(2, 2));
        check.same(1, x.days(1));
        check.same(1, x.day());
        check.same(1, x.evening(0, 1, 70));
        check.fails(Check.UNFIT, () -> x.drop(1, 0));
        check.same(320, x.bill());
        check.same(0.5f, x.castShare());
        check.same(0.6666666666666666, x.meanLoad());
        check.same(8893110138008118478L, x.checksum());
        check.same(true, x.isSound());
    }
}
