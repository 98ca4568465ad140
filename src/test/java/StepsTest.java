/** Promises 1 to 13: a new object, steps and phrases. */
public final class StepsTest {
    private static final Check check = new Check();

    public static void main(String[] args) {
        newObject();
        step();
        tempi();
        phrase();
        add();
        take();
        mirror();
        weight();
        tempo();
        place();
        meets();
        changes();
        bridge();
        check.finish();
    }

    private static void newObject() {
        check.promise(1);
        Barrehouse x = new Barrehouse();
        check.same(0, x.day());
        check.same(0, x.bill());
        check.same(217L, x.checksum());
        check.same(true, x.isSound());
        check.fails(Check.INDEX, () -> x.tempi(0, 40, 200));
        check.fails(Check.INDEX, () -> x.take(0));
        check.fails(Check.INDEX, () -> x.load(0));
        check.fails(Check.INDEX, () -> x.role(0, 0, 0, 150, 200, 0));
        check.fails(Check.INDEX, () -> x.isReady(0));
        check.fails(Check.NONE, x::castShare);
        check.fails(Check.NONE, x::meanLoad);
        check.same(0, x.step('l', 'r', 1, 0, 0));
        check.same(0, x.phrase());
        check.same(0, x.dancer(0, 150, 10));
        check.same(0, x.work());
        Barrehouse y = new Barrehouse();
        check.fails(Check.INDEX, () -> y.tempi(0, 40, 200));
    }

    private static void step() {
        check.promise(2);
        Barrehouse x = new Barrehouse();
        for (char bad : new char[] {'a', 'L', 'R', 'B', 'm', 'k', 'q', 's', 'c', (char) 0, (char) 65535}) {
            check.fails(Check.RANGE, () -> x.step(bad, 'r', 1, 0, 0));
            check.fails(Check.RANGE, () -> x.step('r', bad, 1, 0, 0));
        }
        for (int bad : new int[] {0, 9, -1, Integer.MIN_VALUE, Integer.MAX_VALUE}) {
            check.fails(Check.RANGE, () -> x.step('l', 'r', bad, 0, 0));
        }
        for (int bad : new int[] {-4, 4, Integer.MIN_VALUE, Integer.MAX_VALUE}) {
            check.fails(Check.RANGE, () -> x.step('l', 'r', 1, bad, 0));
            check.fails(Check.RANGE, () -> x.step('l', 'r', 1, 0, bad));
        }
        check.same(0, x.step('l', 'l', 1, -3, -3));
        check.same(1, x.step('r', 'b', 8, 3, 3));
        for (int number = 2; number < 16; number++) {
            check.same(number, x.step('b', 'b', 4, 0, 0));
        }
        check.fails(Check.FULL, () -> x.step('b', 'b', 4, 0, 0));
        check.fails(Check.RANGE, () -> x.step('x', 'b', 4, 0, 0));
        check.fails(Check.RANGE, () -> x.step('b', 'b', 9, 0, 0));
        x.phrase();
        check.same(8, x.add(0, 1, false));
        check.same(12, x.add(0, 15, false));
        check.same(3, x.place(0, 8, false));
        check.same(3, x.place(0, 8, true));
        check.same('r', x.weight(0, false));
        check.same('b', x.weight(0, true));
        check.fails(Check.INDEX, () -> x.add(0, 16, false));
    }

    private static void tempi() {
        check.promise(3);
        Barrehouse x = new Barrehouse();
        x.step('l', 'r', 2, 0, 0);
        x.step('r', 'l', 2, 0, 0);
        check.same(40, x.tempi(0, 60, 90));
        check.same(60, x.tempi(0, 40, 200));
        check.same(40, x.tempi(0, 200, 200));
        check.same(200, x.tempi(0, 40, 40));
        check.same(40, x.tempi(1, 70, 80));
        check.same(40, x.tempi(0, 50, 60));
        check.fails(Check.INDEX, () -> x.tempi(2, 60, 90));
        check.fails(Check.INDEX, () -> x.tempi(-1, 60, 90));
        check.fails(Check.INDEX, () -> x.tempi(2, 1, 0));
        check.fails(Check.RANGE, () -> x.tempi(0, 39, 90));
        check.fails(Check.RANGE, () -> x.tempi(0, 60, 201));
        check.fails(Check.RANGE, () -> x.tempi(0, 61, 60));
        check.fails(Check.RANGE, () -> x.tempi(0, 201, 201));
        check.fails(Check.RANGE, () -> x.tempi(0, 40, 39));
        x.phrase();
        x.add(0, 0, false);
        check.same(50, x.tempo(0, true));
        check.same(60, x.tempo(0, false));
        x.tempi(0, 100, 120);
        check.same(100, x.tempo(0, true));
        check.same(120, x.tempo(0, false));
    }

    private static void phrase() {
        check.promise(4);
        Barrehouse x = new Barrehouse();
        for (int number = 0; number < 12; number++) {
            check.same(number, x.phrase());
            check.fails(Check.UNFIT, () -> x.take(x.changes(0, 0)));
        }
        check.fails(Check.FULL, x::phrase);
        check.fails(Check.INDEX, () -> x.take(12));
    }

    private static void add() {
        check.promise(5);
        Barrehouse x = new Barrehouse();
        x.step('l', 'r', 2, 1, 0);
        x.step('r', 'b', 3, 0, 1);
        x.step('b', 'l', 1, -1, 0);
        x.phrase();
        check.fails(Check.INDEX, () -> x.add(1, 0, false));
        check.fails(Check.INDEX, () -> x.add(-1, 0, false));
        check.fails(Check.INDEX, () -> x.add(0, 3, false));
        check.fails(Check.INDEX, () -> x.add(0, -1, true));
        check.same(2, x.add(0, 0, false));
        check.fails(Check.UNFIT, () -> x.add(0, 0, false));
        check.fails(Check.UNFIT, () -> x.add(0, 2, false));
        check.fails(Check.UNFIT, () -> x.add(0, 2, true));
        check.same(4, x.add(0, 0, true));
        check.fails(Check.UNFIT, () -> x.add(0, 1, false));
        check.same(7, x.add(0, 1, true));
        check.fails(Check.UNFIT, () -> x.add(0, 1, true));
        check.same(8, x.add(0, 2, true));
        check.same('r', x.weight(0, true));
        check.fails(Check.UNFIT, () -> x.add(0, 0, false));
        for (int items = 4; items < 12; items++) {
            check.same(8 + 2 * (items - 3), x.add(0, 0, items % 2 == 0));
        }
        check.fails(Check.FULL, () -> x.add(0, 0, true));
        check.fails(Check.UNFIT, () -> x.add(0, 0, false));
        check.fails(Check.INDEX, () -> x.add(0, 3, false));
        check.same(22, x.take(0));
        x.phrase();
        check.same(2, x.add(1, 0, true));
        check.same('r', x.weight(1, false));
        check.same('l', x.weight(1, true));
    }

    private static void take() {
        check.promise(6);
        Barrehouse x = new Barrehouse();
        x.step('l', 'r', 2, 1, 0);
        x.step('r', 'b', 3, 0, 1);
        x.phrase();
        check.fails(Check.UNFIT, () -> x.take(0));
        check.fails(Check.INDEX, () -> x.take(1));
        check.fails(Check.INDEX, () -> x.take(-1));
        x.add(0, 0, false);
        x.add(0, 1, false);
        check.same(2, x.take(0));
        check.same('r', x.weight(0, true));
        check.same(0, x.take(0));
        check.fails(Check.UNFIT, () -> x.take(0));
        check.same(3, x.add(0, 1, true));
    }

    private static void mirror() {
        check.promise(7);
        Barrehouse x = new Barrehouse();
        x.step('l', 'r', 2, 1, -2);
        x.step('r', 'b', 3, 2, 1);
        x.phrase();
        check.same(1, x.mirror(0));
        check.fails(Check.UNFIT, () -> x.take(1));
        x.add(0, 0, false);
        x.add(0, 1, false);
        check.same(2, x.mirror(0));
        check.same('r', x.weight(2, false));
        check.same('b', x.weight(2, true));
        check.same(-1, x.place(2, 2, false));
        check.same(-3, x.place(2, 5, false));
        check.same(-2, x.place(2, 2, true));
        check.same(-1, x.place(2, 5, true));
        check.same(2, x.changes(0, 2));
        check.same(3, x.mirror(2));
        check.same(0, x.changes(0, 3));
        x.take(0);
        check.same(1, x.changes(0, 3));
        check.same('b', x.weight(2, true));
        x.take(2);
        check.same('l', x.weight(2, true));
        check.fails(Check.INDEX, () -> x.mirror(4));
        check.fails(Check.INDEX, () -> x.mirror(-1));
        for (int number = 4; number < 12; number++) {
            check.same(number, x.mirror(3));
        }
        check.fails(Check.FULL, () -> x.mirror(3));
        check.fails(Check.INDEX, () -> x.mirror(12));
    }

    private static void weight() {
        check.promise(8);
        Barrehouse x = new Barrehouse();
        x.step('l', 'r', 2, 1, 0);
        x.step('r', 'b', 3, 0, 1);
        x.step('b', 'b', 3, 0, 1);
        x.phrase();
        check.fails(Check.NONE, () -> x.weight(0, true));
        check.fails(Check.NONE, () -> x.weight(0, false));
        check.fails(Check.INDEX, () -> x.weight(1, true));
        check.fails(Check.INDEX, () -> x.weight(-1, false));
        x.add(0, 0, false);
        check.same('l', x.weight(0, false));
        check.same('r', x.weight(0, true));
        x.add(0, 1, false);
        check.same('l', x.weight(0, false));
        check.same('b', x.weight(0, true));
        x.phrase();
        x.add(1, 0, true);
        check.same('r', x.weight(1, false));
        check.same('l', x.weight(1, true));
        x.phrase();
        x.add(2, 2, true);
        check.same('b', x.weight(2, false));
        check.same('b', x.weight(2, true));
    }

    private static void tempo() {
        check.promise(9);
        Barrehouse x = new Barrehouse();
        x.step('b', 'b', 2, 1, 0);
        x.step('b', 'b', 3, 0, 1);
        x.phrase();
        check.same(40, x.tempo(0, true));
        check.same(200, x.tempo(0, false));
        check.fails(Check.INDEX, () -> x.tempo(1, true));
        check.fails(Check.INDEX, () -> x.tempo(-1, true));
        x.add(0, 0, false);
        x.add(0, 1, true);
        x.tempi(0, 60, 90);
        x.tempi(1, 80, 150);
        check.same(80, x.tempo(0, true));
        check.same(90, x.tempo(0, false));
        x.tempi(1, 90, 150);
        check.same(90, x.tempo(0, true));
        check.same(90, x.tempo(0, false));
        x.tempi(1, 91, 150);
        check.fails(Check.NONE, () -> x.tempo(0, true));
        check.fails(Check.NONE, () -> x.tempo(0, false));
        x.tempi(1, 40, 59);
        check.fails(Check.NONE, () -> x.tempo(0, false));
        x.take(0);
        check.same(60, x.tempo(0, true));
        x.take(0);
        check.same(40, x.tempo(0, true));
        check.same(200, x.tempo(0, false));
    }

    private static void place() {
        check.promise(10);
        Barrehouse x = new Barrehouse();
        x.step('b', 'b', 2, 3, -2);
        x.step('b', 'b', 3, 1, 3);
        x.phrase();
        check.same(0, x.place(0, 0, false));
        check.same(0, x.place(0, 99, true));
        check.fails(Check.RANGE, () -> x.place(0, -1, false));
        check.fails(Check.RANGE, () -> x.place(0, Integer.MIN_VALUE, true));
        check.fails(Check.INDEX, () -> x.place(1, 0, false));
        check.fails(Check.INDEX, () -> x.place(-1, -1, false));
        x.add(0, 0, false);
        x.add(0, 1, true);
        x.add(0, 0, true);
        int[] right = {0, 0, 3, 3, 3, 2, 2, -1, -1};
        int[] forward = {0, 0, -2, -2, -2, 1, 1, -1, -1};
        for (int counts = 0; counts < right.length; counts++) {
            int by = counts;
            check.same(right[counts], x.place(0, by, false));
            check.same(forward[counts], x.place(0, by, true));
        }
        check.same(-1, x.place(0, Integer.MAX_VALUE, false));
        check.same(-1, x.place(0, Integer.MAX_VALUE, true));
    }

    private static void meets() {
        check.promise(11);
        Barrehouse x = new Barrehouse();
        x.step('b', 'b', 2, 1, 0);
        x.step('b', 'b', 3, 0, 1);
        x.step('b', 'b', 8, 3, 3);
        x.phrase();
        x.phrase();
        check.same(0, x.meets(0, 1, 0, 0));
        check.same(0, x.meets(0, 0, 0, 0));
        check.fails(Check.NONE, () -> x.meets(0, 1, 0, 1));
        check.fails(Check.NONE, () -> x.meets(0, 1, 1, 0));
        check.fails(Check.INDEX, () -> x.meets(0, 2, 0, 0));
        check.fails(Check.INDEX, () -> x.meets(2, 0, 0, 0));
        check.fails(Check.INDEX, () -> x.meets(-1, 0, 0, 0));
        x.add(0, 0, false);
        x.add(0, 1, false);
        check.same(2, x.meets(0, 1, 1, 0));
        check.same(5, x.meets(0, 1, 1, 1));
        check.same(2, x.meets(1, 0, -1, 0));
        check.same(5, x.meets(1, 0, -1, -1));
        check.fails(Check.NONE, () -> x.meets(1, 0, 1, 0));
        check.fails(Check.NONE, () -> x.meets(0, 1, 0, 1));
        check.fails(Check.NONE, () -> x.meets(0, 0, 1, 0));
        x.add(1, 0, true);
        check.same(2, x.meets(0, 1, 2, 0));
        check.same(5, x.meets(0, 1, 2, 1));
        check.same(0, x.meets(0, 1, 0, 0));
        x.phrase();
        for (int items = 0; items < 12; items++) {
            x.add(2, 2, false);
        }
        x.phrase();
        check.same(96, x.meets(2, 3, 36, 36));
        check.same(96, x.meets(3, 2, -36, -36));
        check.same(88, x.meets(2, 3, 33, 33));
        check.same(96, x.meets(0, 2, -35, -35));
        for (int far : new int[] {Integer.MAX_VALUE, Integer.MIN_VALUE, 1 << 16}) {
            check.fails(Check.NONE, () -> x.meets(2, 3, far, 36));
            check.fails(Check.NONE, () -> x.meets(2, 3, 36, far));
            check.fails(Check.NONE, () -> x.meets(3, 2, far, far));
        }
    }

    private static void changes() {
        check.promise(12);
        Barrehouse x = new Barrehouse();
        for (int number = 0; number < 4; number++) {
            x.step('b', 'b', 2, 1, 0);
        }
        phraseOf(x, "0123");
        phraseOf(x, "123");
        phraseOf(x, "0213");
        phraseOf(x, "");
        phraseOf(x, "0000");
        phraseOf(x, "012301230123");
        phraseOf(x, "321032103210");
        phraseOf(x, "1230");
        check.same(0, x.changes(0, 0));
        check.same(1, x.changes(0, 1));
        check.same(1, x.changes(1, 0));
        check.same(2, x.changes(0, 2));
        check.same(4, x.changes(0, 3));
        check.same(4, x.changes(3, 0));
        check.same(0, x.changes(3, 3));
        check.same(3, x.changes(0, 4));
        check.same(8, x.changes(0, 5));
        check.same(12, x.changes(5, 3));
        check.same(12, x.changes(3, 5));
        check.same(0, x.changes(5, 5));
        check.same(2, x.changes(0, 7));
        check.same(8, x.changes(5, 6));
        check.same(4, x.changes(0, x.mirror(0)));
        check.same(12, x.changes(5, x.mirror(5)));
        check.fails(Check.INDEX, () -> x.changes(10, 0));
        check.fails(Check.INDEX, () -> x.changes(0, 10));
        check.fails(Check.INDEX, () -> x.changes(-1, 0));
        check.fails(Check.INDEX, () -> x.changes(0, -1));
    }

    private static int phraseOf(Barrehouse x, String steps) {
        int made = x.phrase();
        for (int at = 0; at < steps.length(); at++) {
            x.add(made, steps.charAt(at) - '0', false);
        }
        return made;
    }

    private static void bridge() {
        check.promise(13);
        Barrehouse x = new Barrehouse();
        x.step('l', 'l', 1, 0, 0);
        x.step('b', 'b', 1, 0, 0);
        x.phrase();
        x.phrase();
        x.phrase();
        x.phrase();
        x.add(0, 0, false);
        x.add(1, 0, true);
        x.add(2, 1, false);
        check.fails(Check.UNFIT, () -> x.bridge(0, 3));
        check.fails(Check.UNFIT, () -> x.bridge(3, 0));
        check.fails(Check.UNFIT, () -> x.bridge(3, 3));
        check.fails(Check.INDEX, () -> x.bridge(3, 4));
        check.fails(Check.INDEX, () -> x.bridge(4, 3));
        check.fails(Check.INDEX, () -> x.bridge(-1, 3));
        check.same(0, x.bridge(0, 0));
        check.same(0, x.bridge(2, 2));
        check.fails(Check.NONE, () -> x.bridge(0, 1));
        check.fails(Check.NONE, () -> x.bridge(0, 2));
        check.fails(Check.NONE, () -> x.bridge(2, 0));
        x.step('r', 'b', 1, 0, 0);
        check.same(1, x.bridge(0, 2));
        check.same(1, x.bridge(1, 2));
        check.fails(Check.NONE, () -> x.bridge(2, 0));
        check.fails(Check.NONE, () -> x.bridge(0, 1));
        x.step('b', 'l', 1, 0, 0);
        check.same(1, x.bridge(2, 0));
        check.same(1, x.bridge(2, 1));
        check.same(2, x.bridge(0, 1));
        check.same(2, x.bridge(1, 0));
        x.step('l', 'r', 1, 0, 0);
        check.same(1, x.bridge(0, 1));
        check.same(1, x.bridge(1, 0));
        x.phrase();
        x.add(4, 2, true);
        check.same('l', x.weight(4, false));
        check.same('b', x.weight(4, true));
        check.same(1, x.bridge(4, 4));
        check.same(0, x.bridge(4, 2));
        check.same(1, x.bridge(1, 4));
        check.same(0, x.bridge(0, 4));
        bridgeOfOneStep();
    }

    private static void bridgeOfOneStep() {
        Barrehouse x = new Barrehouse();
        x.step('b', 'l', 1, 0, 0);
        x.phrase();
        check.fails(Check.UNFIT, () -> x.bridge(0, 0));
        x.add(0, 0, false);
        x.mirror(0);
        check.fails(Check.NONE, () -> x.bridge(0, 0));
        x.step('r', 'b', 1, 0, 0);
        check.same(1, x.bridge(0, 0));
        check.same(1, x.bridge(0, 1));
        x.phrase();
        x.add(2, 1, false);
        check.same('b', x.weight(2, true));
        check.same('r', x.weight(2, false));
        // By the step 0 alone, mirrored.
        check.same(1, x.bridge(2, 2));
        check.same(2, x.bridge(0, 2));
        check.same(0, x.bridge(1, 2));
    }
}
