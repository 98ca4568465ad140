/** Promises 1 to 13: each sentence on steps and phrases that names a boundary case, by runs of its own. */
public final class EdgesOfStepsTest {
    private static final Edges edges = new Edges();
    private static final String WEIGHTS = "lrb";

    /** A step of each weight that stays on it, and a phrase. */
    private static final String STAYING =
            "step('l', 'l', 1, 0, 0); step('r', 'r', 1, 0, 0); step('b', 'b', 1, 0, 0); phrase();";

    public static void main(String[] args) {
        newObject();
        step();
        wayOfAStep();
        tempi();
        phrase();
        add();
        addJoins();
        take();
        mirror();
        weight();
        tempo();
        place();
        meets();
        meetsFar();
        changes();
        changesOfFull();
        bridge();
        bridgeByWeights();
        edges.mustTell(1, 13);
        edges.mustRefuse("step", "phrase", "add", "take", "mirror", "weight", "tempo", "place", "meets", "changes",
                "bridge");
        edges.finish();
    }

    private static void newObject() {
        edges.tell(1, "without steps", "tempi(0, 40, 200)" + Edges.INDEX, "phrase(); add(0, 0, false)" + Edges.INDEX);
        edges.tell(1, "without phrases", """
                step('b', 'b', 1, 0, 0); add(0, 0, false) = throws IndexOutOfBoundsException;
                take(0) = throws IndexOutOfBoundsException; mirror(0) = throws IndexOutOfBoundsException;
                weight(0, true) = throws IndexOutOfBoundsException; tempo(0, true) = throws IndexOutOfBoundsException;
                place(0, 0, true) = throws IndexOutOfBoundsException;
                meets(0, 0, 0, 0) = throws IndexOutOfBoundsException;
                changes(0, 0) = throws IndexOutOfBoundsException; bridge(0, 0) = throws IndexOutOfBoundsException;
                work(); role(0, 0, 0, 150, 200, 0) = throws IndexOutOfBoundsException""");
        edges.tell(1, "without dancers", """
                promote(0) = throws IndexOutOfBoundsException; hurt(0, 1) = throws IndexOutOfBoundsException;
                load(0) = throws IndexOutOfBoundsException; rehearse(0, 1, 1) = throws IndexOutOfBoundsException;
                shoes(0, 1, 1, 0) = throws IndexOutOfBoundsException; minutes(0) = throws IndexOutOfBoundsException;
                meanLoad() = throws NoSuchElementException; phrase(); work(); role(0, 0, 0, 150, 200, 0) = 0;
                learn(0, 0, 1) = throws IndexOutOfBoundsException;
                isLearnt(0, 0) = throws IndexOutOfBoundsException""");
        edges.tell(1, "without works", """
                phrase(); role(0, 0, 0, 150, 200, 0) = throws IndexOutOfBoundsException;
                evening(0, 0, 100) = throws IndexOutOfBoundsException; partner(0, 1) = throws IndexOutOfBoundsException;
                dancer(0, 170, 50); learn(0, 0, 1) = throws IndexOutOfBoundsException;
                isLearnt(0, 0) = throws IndexOutOfBoundsException""");
        edges.tell(1, "without evenings", """
                phrase(); work(); role(0, 0, 0, 150, 200, 0); dancer(0, 170, 50);
                bars(0, 0, 0) = throws IndexOutOfBoundsException; cast(0, 0, 0) = throws IndexOutOfBoundsException;
                drop(0, 0) = throws IndexOutOfBoundsException; who(0, 0) = throws IndexOutOfBoundsException;
                isReady(0) = throws IndexOutOfBoundsException; casts(0) = throws IndexOutOfBoundsException;
                least(0) = throws IndexOutOfBoundsException; leastFor(0, 0) = throws IndexOutOfBoundsException;
                dance(0) = throws IndexOutOfBoundsException; castShare() = throws NoSuchElementException""");
        edges.tell(1, "on the day 0", "day() = 0; days(1) = 1");
        edges.tell(1, "without sums", "bill() = 0; checksum() = 217; isSound() = true");
        edges.tell(1, "at most 512 calls", "510 * bill(); step('b', 'b', 1, 0, 0) = 0; tempi(0, 50, 60) = 40");
    }

    private static void step() {
        edges.tell(2, "at most 16 are numbered from 0", Edges.times(16, "step('b', 'b', 1, 0, 0) = %"),
                "step('b', 'b', 1, 0, 0)" + Edges.FULL, "step('l', 'r', 8, 3, -3)" + Edges.FULL);
        edges.tell(2, "the sixteenth is one like all", "15 * step('b', 'b', 1, 0, 0); step('l', 'r', 8, 3, -3) = 15;"
                + "tempi(15, 60, 70) = 40; phrase(); add(0, 15, false) = 8; weight(0, false) = l;"
                + "weight(0, true) = r; tempo(0, true) = 60; place(0, 8, false) = 3; place(0, 8, true) = -3");
        edges.tell(2, "a refused one has no number", "step('x', 'b', 1, 0, 0)" + Edges.RANGE,
                "step('b', 'b', 1, 0, 0) = 0; step('b', 'b', 9, 0, 0)" + Edges.RANGE, "step('b', 'b', 1, 0, 0) = 1");
        edges.tell(2, "two may be alike", "step('l', 'l', 1, 0, 0) = 0; step('l', 'l', 1, 0, 0) = 1");
        for (char from : WEIGHTS.toCharArray()) {
            for (char to : WEIGHTS.toCharArray()) {
                edges.tell(2, "from " + from + " to " + to, "step('" + from + "', '" + to + "', 1, 0, 0) = 0;"
                        + "phrase(); add(0, 0, false); weight(0, false) = " + from + "; weight(0, true) = " + to);
            }
        }
    }

    private static void wayOfAStep() {
        for (int counts : new int[] {1, 2, 8}) {
            edges.tell(2, "the way comes with the last one of counts " + counts,
                    "step('b', 'b', " + counts + ", 2, -1); phrase(); add(0, 0, false) = " + counts,
                    "place(0, 0, false) = 0; place(0, 0, true) = 0",
                    "place(0, " + (counts - 1) + ", false) = 0; place(0, " + (counts - 1) + ", true) = 0",
                    "place(0, " + counts + ", false) = 2; place(0, " + counts + ", true) = -1");
        }
        for (int way : new int[] {-3, -1, 0, 1, 3}) {
            edges.tell(2, "a way to the right of " + way, "step('b', 'b', 1, " + way + ", 0); phrase();"
                    + "add(0, 0, false); place(0, 1, false) = " + way + "; place(0, 1, true) = 0");
            edges.tell(2, "a way forward of " + way, "step('b', 'b', 1, 0, " + way + "); phrase();"
                    + "add(0, 0, false); place(0, 1, true) = " + way + "; place(0, 1, false) = 0");
            edges.tell(7, "mirrored as far to the left as " + way, "step('b', 'b', 1, " + way + ", 2); phrase();"
                    + "add(0, 0, true); place(0, 1, false) = " + -way + "; place(0, 1, true) = 2");
            edges.tell(7, "mirrored as far forward as " + way, "step('b', 'b', 1, 2, " + way + "); phrase();"
                    + "add(0, 0, true); place(0, 1, false) = -2; place(0, 1, true) = " + way);
        }
    }

    private static void tempi() {
        String one = "step('b', 'b', 1, 0, 0); phrase(); add(0, 0, false);";
        edges.tell(3, "40 to 200 at first", one, "tempo(0, true) = 40; tempo(0, false) = 200");
        edges.tell(3, "returns the least one before, at first 40", one, "tempi(0, 200, 200) = 40");
        edges.tell(3, "returns the least one before", one, "tempi(0, 50, 60); tempi(0, 70, 80) = 50;"
                + "tempi(0, 40, 40) = 70; tempi(0, 41, 200) = 40");
        edges.tell(3, "a refused one is none before", one, "tempi(0, 50, 60); tempi(0, 70, 69)" + Edges.RANGE,
                "tempi(0, 39, 60)" + Edges.RANGE, "tempi(0, 60, 201)" + Edges.RANGE, "tempi(0, 40, 200) = 50");
        edges.tell(3, "the greatest one, not less: the same", one, "tempi(0, 120, 120) = 40; tempo(0, true) = 120;"
                + "tempo(0, false) = 120; tempi(0, 120, 119)" + Edges.RANGE);
        edges.tell(3, "40 alone", one, "tempi(0, 40, 40) = 40; tempo(0, true) = 40; tempo(0, false) = 40");
        edges.tell(3, "200 alone", one, "tempi(0, 200, 200) = 40; tempo(0, true) = 200; tempo(0, false) = 200");
        edges.tell(3, "all of 40 to 200", one, "tempi(0, 50, 60); tempi(0, 40, 200) = 50; tempo(0, true) = 40;"
                + "tempo(0, false) = 200");
        edges.tell(3, "the one step alone", one, "step('b', 'b', 1, 0, 0); tempi(1, 90, 95) = 40;"
                + "tempo(0, true) = 40; tempo(0, false) = 200; tempi(0, 50, 60) = 40; tempi(1, 90, 95) = 90");
    }

    private static void phrase() {
        edges.tell(4, "at most 12 are numbered from 0", Edges.times(12, "phrase() = %"), "phrase()" + Edges.FULL,
                "phrase()" + Edges.FULL);
        edges.tell(4, "mirrored ones count among the 12", Edges.times(11, "phrase() = %"), "mirror(0) = 11",
                "phrase()" + Edges.FULL);
        edges.tell(4, "without items", "phrase() = 0; take(0)" + Edges.UNFIT, "weight(0, true)" + Edges.NONE,
                "tempo(0, true) = 40; place(0, 8, true) = 0; changes(0, 0) = 0; checksum() = 6727");
        edges.tell(4, "the twelfth is one like all", "step('b', 'b', 5, 1, 1); 11 * phrase(); phrase() = 11;"
                + "add(11, 0, false) = 5; weight(11, true) = b; changes(11, 0) = 1; take(11) = 0");
        edges.tell(4, "each has items of its own", "step('b', 'b', 5, 1, 1); phrase(); phrase();"
                + "add(0, 0, false) = 5; take(1)" + Edges.UNFIT, "add(1, 0, false) = 5; add(0, 0, false) = 10");
    }

    private static void add() {
        String one = "step('b', 'b', 1, 0, 0); phrase();";
        edges.tell(5, "at most 12 items", one, Edges.times(12, "add(0, 0, false)"), "add(0, 0, false)" + Edges.FULL,
                "add(0, 0, true)" + Edges.FULL);
        edges.tell(5, "the twelfth item", one, "11 * add(0, 0, false); add(0, 0, false) = 12");
        edges.tell(5, "room again behind a take", one, "12 * add(0, 0, false); take(0) = 11; add(0, 0, true) = 12;"
                + "add(0, 0, true)" + Edges.FULL);
        edges.tell(5, "12 items in each phrase", one, "phrase(); 12 * add(0, 0, false); 11 * add(1, 0, false);"
                + "add(1, 0, true) = 12");
        edges.tell(5, "the greatest counts", "step('b', 'b', 8, 0, 0); phrase();",
                "add(0, 0, false) = 8; 10 * add(0, 0, true); add(0, 0, false) = 96");
        edges.tell(5, "the least counts", one, "add(0, 0, true) = 1");
        edges.tell(5, "the first step and the last one", one, "step('b', 'b', 7, 0, 0); add(0, 0, false) = 1;"
                + "add(0, 1, false) = 8; add(0, 2, false)" + Edges.INDEX);
        edges.tell(5, "a misfit adds nothing", STAYING, "add(0, 0, false) = 1; add(0, 1, false)" + Edges.UNFIT,
                "add(0, 2, false)" + Edges.UNFIT, "add(0, 0, true)" + Edges.UNFIT, "add(0, 1, true) = 2");
    }

    private static void addJoins() {
        for (char end : WEIGHTS.toCharArray()) {
            String first = "step('b', '" + end + "', 1, 0, 0); ";
            for (char begin : WEIGHTS.toCharArray()) {
                String second = "step('" + begin + "', 'b', 2, 0, 0); phrase(); add(0, 0, false); ";
                edges.tell(5, begin + " behind " + end, first, second,
                        "add(0, 1, false)" + (begin == end ? " = 3;" : Edges.UNFIT));
                edges.tell(5, begin + " mirrored behind " + end, first, second,
                        "add(0, 1, true)" + (mirrored(begin) == end ? " = 3;" : Edges.UNFIT));
            }
            edges.tell(5, "any weight begins, " + end, "step('" + end + "', 'b', 2, 0, 0); phrase(); phrase();"
                    + "add(0, 0, false) = 2; add(1, 0, true) = 2");
            edges.tell(5, "any weight begins when all are taken, " + end, first, "step('" + end
                    + "', 'b', 2, 0, 0); phrase(); add(0, 0, false); take(0) = 0; add(0, 1, false) = 2");
        }
        edges.tell(5, "joins the item ahead, not an older one", "step('l', 'r', 1, 0, 0); phrase();"
                + "add(0, 0, false); add(0, 0, true) = 2; add(0, 0, true)" + Edges.UNFIT,
                "add(0, 0, false) = 3; add(0, 0, false)" + Edges.UNFIT);
        edges.tell(5, "joins the end that a take leaves", "step('l', 'r', 1, 0, 0); step('r', 'b', 1, 0, 0);"
                + "phrase(); add(0, 0, false); add(0, 1, false); take(0) = 1; add(0, 1, false) = 2;"
                + "take(0) = 1; add(0, 0, true) = 2; add(0, 0, false) = 3");
    }

    private static char mirrored(char weight) {
        return weight == 'l' ? 'r' : weight == 'r' ? 'l' : 'b';
    }

    private static void take() {
        String one = "step('b', 'b', 3, 0, 0); step('b', 'b', 4, 0, 0); phrase();";
        edges.tell(6, "it has none", one, "take(0)" + Edges.UNFIT, "take(0)" + Edges.UNFIT);
        edges.tell(6, "the last one of all", one, "add(0, 0, false); take(0) = 0; take(0)" + Edges.UNFIT);
        edges.tell(6, "the last of two", one, "add(0, 0, false); add(0, 1, false) = 7; take(0) = 3; take(0) = 0");
        edges.tell(6, "all of 12", one, "11 * add(0, 0, false); add(0, 1, true) = 37; take(0) = 33;"
                + "10 * take(0); take(0) = 0; take(0)" + Edges.UNFIT);
        edges.tell(6, "of a mirrored one without items", one, "mirror(0) = 1; take(1)" + Edges.UNFIT);
        edges.tell(6, "of one phrase alone", one, "add(0, 0, false); mirror(0); take(0) = 0; take(1) = 0;"
                + "take(1)" + Edges.UNFIT);
    }

    private static void mirror() {
        String one = "step('l', 'r', 2, 1, -2); step('r', 'b', 3, 2, 1); phrase();";
        edges.tell(7, "at most 12 are numbered", "phrase();", Edges.times(10, "mirror(%)"), "mirror(0) = 11",
                "mirror(0)" + Edges.FULL, "mirror(11)" + Edges.FULL);
        edges.tell(7, "of a phrase without items", one, "mirror(0) = 1; weight(1, true)" + Edges.NONE,
                "tempo(1, false) = 200; changes(0, 1) = 0; add(1, 1, false) = 3; changes(0, 1) = 1");
        edges.tell(7, "of a phrase of 12 items", one, Edges.times(6, "add(0, 0, false); add(0, 0, true)"),
                "mirror(0) = 1; changes(0, 1) = 2; weight(1, false) = r; weight(1, true) = r;"
                        + "place(1, 2, false) = -1; place(1, 24, false) = 0; place(1, 24, true) = -24;"
                        + "add(1, 0, true)" + Edges.FULL);
        edges.tell(7, "left and right are exchanged", one, "add(0, 0, false); mirror(0) = 1; weight(1, false) = r;"
                + "weight(1, true) = l; weight(0, false) = l; weight(0, true) = r");
        edges.tell(7, "both stays", one, "add(0, 1, false); mirror(0) = 1; weight(1, false) = l; weight(1, true) = b");
        edges.tell(7, "mirrored twice", one, "add(0, 0, false); add(0, 1, false); mirror(0); mirror(1) = 2;"
                + "changes(0, 2) = 0; changes(1, 2) = 2; place(2, 5, false) = 3; place(1, 5, false) = -3");
        edges.tell(7, "of items that are mirrored", one, "add(0, 0, true); add(0, 0, false); mirror(0) = 1;"
                + "weight(1, false) = l; add(1, 0, false) = 6; place(1, 2, false) = 1; place(1, 4, false) = 0");
        edges.tell(7, "a later item stays in the one", one, "add(0, 0, false); mirror(0); add(0, 1, false) = 5;"
                + "take(1) = 0; take(1)" + Edges.UNFIT, "take(0) = 2");
        edges.tell(7, "later tempi of the step count for both", one, "add(0, 0, false); mirror(0);"
                + "tempi(0, 70, 80); tempo(0, true) = 70; tempo(1, true) = 70; tempo(1, false) = 80");
    }

    private static void weight() {
        String one = "step('l', 'r', 1, 0, 0); step('r', 'b', 1, 0, 0); phrase();";
        edges.tell(8, "it has no items", one, "weight(0, true)" + Edges.NONE, "weight(0, false)" + Edges.NONE);
        edges.tell(8, "all items are taken", one, "add(0, 0, false); take(0); weight(0, true)" + Edges.NONE,
                "weight(0, false)" + Edges.NONE);
        edges.tell(8, "of one item", one, "add(0, 0, false); weight(0, false) = l; weight(0, true) = r");
        edges.tell(8, "of 12 items", one, Edges.times(5, "add(0, 0, false); add(0, 0, true)"),
                "add(0, 0, false); add(0, 1, false) = 12; weight(0, false) = l; weight(0, true) = b");
        edges.tell(8, "that at the end behind a take", one, "add(0, 0, false); add(0, 1, false);"
                + "weight(0, true) = b; take(0); weight(0, true) = r; weight(0, false) = l");
    }

    private static void tempo() {
        String two = "step('b', 'b', 1, 0, 0); step('b', 'b', 1, 0, 0); phrase();";
        edges.tell(9, "40 and 200 without items", two, "tempo(0, true) = 40; tempo(0, false) = 200");
        edges.tell(9, "40 and 200 without items, whatever steps allow", two, "tempi(0, 100, 100); tempi(1, 90, 90);"
                + "tempo(0, true) = 40; tempo(0, false) = 200");
        edges.tell(9, "40 and 200 when all items are taken", two, "tempi(0, 100, 100); add(0, 0, false); take(0);"
                + "tempo(0, true) = 40; tempo(0, false) = 200");
        edges.tell(9, "of one item", two, "tempi(0, 50, 60); add(0, 0, true); tempo(0, true) = 50;"
                + "tempo(0, false) = 60");
        edges.tell(9, "one that all items allow", two, "tempi(0, 50, 90); tempi(1, 90, 120); add(0, 0, false);"
                + "add(0, 1, false); tempo(0, true) = 90; tempo(0, false) = 90");
        edges.tell(9, "none that all items allow, by one", two, "tempi(0, 50, 89); tempi(1, 90, 120);"
                + "add(0, 0, false); add(0, 1, false); tempo(0, true)" + Edges.NONE, "tempo(0, false)" + Edges.NONE);
        edges.tell(9, "none that all items allow, in the other order", two, "tempi(0, 90, 120); tempi(1, 50, 89);"
                + "add(0, 0, false); add(0, 1, false); tempo(0, false)" + Edges.NONE, "tempo(0, true)" + Edges.NONE);
        edges.tell(9, "none at the ends of the range", two, "tempi(0, 40, 40); tempi(1, 200, 200);"
                + "add(0, 0, false); add(0, 1, false); tempo(0, true)" + Edges.NONE, "take(0); tempo(0, false) = 40");
        edges.tell(9, "of 12 items the narrowest", two, "tempi(1, 70, 71); 11 * add(0, 0, false); add(0, 1, true);"
                + "tempo(0, true) = 70; tempo(0, false) = 71");
        edges.tell(9, "a tempo comes back", two, "tempi(0, 50, 60); tempi(1, 61, 70); add(0, 0, false);"
                + "add(0, 1, false); tempo(0, true)" + Edges.NONE, "tempi(1, 60, 70); tempo(0, true) = 60");
    }

    private static void place() {
        String two = "step('b', 'b', 2, 3, -2); step('b', 'b', 8, -1, 3); phrase(); add(0, 0, false);"
                + "add(0, 1, false); phrase();";
        edges.tell(10, "at the beginning", two, "place(0, 0, false) = 0; place(0, 0, true) = 0");
        edges.tell(10, "just ahead of the last count of an item", two, "place(0, 1, false) = 0; place(0, 1, true) = 0;"
                + "place(0, 9, false) = 3; place(0, 9, true) = -2");
        edges.tell(10, "at the last count of an item", two, "place(0, 2, false) = 3; place(0, 2, true) = -2;"
                + "place(0, 10, false) = 2; place(0, 10, true) = 1");
        edges.tell(10, "behind the end as at the end", two, "place(0, 11, false) = 2; place(0, 11, true) = 1;"
                + "place(0, MAX, false) = 2; place(0, MAX, true) = 1");
        edges.tell(10, "without items", two, "place(1, 0, false) = 0; place(1, 1, true) = 0; place(1, MAX, true) = 0");
        edges.tell(10, "the counts are below 0", two, "place(0, -1, false)" + Edges.RANGE,
                "place(1, -1, true)" + Edges.RANGE, "place(0, MIN, false)" + Edges.RANGE);
        edges.tell(10, "the farthest", "step('b', 'b', 8, 3, -3); phrase(); 12 * add(0, 0, false); mirror(0);"
                + "place(0, 96, false) = 36; place(0, 96, true) = -36; place(0, 95, false) = 33;"
                + "place(1, 96, false) = -36; place(1, 96, true) = -36; place(1, 97, true) = -36");
    }

    private static void meets() {
        String three = "step('b', 'b', 2, 1, 0); step('b', 'b', 3, 0, 1); phrase(); add(0, 0, false);"
                + "add(0, 1, false); phrase(); phrase(); add(2, 0, false); add(2, 0, true); add(2, 0, false);";
        edges.tell(11, "0 if they begin so", three, "meets(0, 1, 0, 0) = 0; meets(1, 0, 0, 0) = 0");
        edges.tell(11, "the same phrase", three, "meets(0, 0, 0, 0) = 0; meets(0, 0, 1, 0)" + Edges.NONE,
                "meets(0, 0, 0, -1)" + Edges.NONE);
        edges.tell(11, "both without items", three, "meets(1, 1, 0, 0) = 0; meets(1, 1, 0, 1)" + Edges.NONE,
                "meets(1, 1, -1, 0)" + Edges.NONE);
        edges.tell(11, "who has ended stays there", three, "meets(0, 1, 1, 0) = 2; meets(0, 1, 1, 1) = 5;"
                + "meets(1, 0, -1, -1) = 5");
        edges.tell(11, "the one ends while the other goes on", three, "meets(0, 2, 1, 1) = 5;"
                + "meets(0, 2, 0, 1) = 6; meets(2, 0, 0, -1) = 6; meets(2, 0, -1, -1) = 5");
        edges.tell(11, "for the first time", three, "meets(2, 1, 1, 0) = 2; meets(2, 1, 0, 0) = 0;"
                + "meets(1, 2, -1, 0) = 2");
        edges.tell(11, "both ways at once", three, "meets(0, 1, 0, 1)" + Edges.NONE, "meets(0, 1, 2, 0)" + Edges.NONE,
                "meets(0, 1, 1, -1)" + Edges.NONE, "meets(0, 1, -1, 0)" + Edges.NONE);
        edges.tell(11, "the one begins to the right of the other", three, "meets(1, 0, 1, 0)" + Edges.NONE,
                "meets(1, 0, -1, 0) = 2");
        edges.tell(11, "with the last count alone", three, "meets(0, 1, 1, 1) = 5; take(0);"
                + "meets(0, 1, 1, 1)" + Edges.NONE, "meets(0, 1, 1, 0) = 2");
    }

    private static void meetsFar() {
        String far = "step('b', 'b', 8, 3, 3); step('b', 'b', 8, 3, -3); phrase(); 12 * add(0, 0, false); mirror(0);"
                + "phrase(); 12 * add(2, 1, false); phrase(); 12 * add(3, 1, true);";
        edges.tell(11, "the farthest way between both", far, "meets(0, 1, 72, 0) = 96; meets(1, 0, -72, 0) = 96;"
                + "meets(0, 2, 0, 72) = 96; meets(2, 0, 0, -72) = 96; meets(0, 3, 72, 72) = 96");
        edges.tell(11, "beyond the farthest way", far, "meets(0, 1, 73, 0)" + Edges.NONE,
                "meets(0, 1, -72, 0)" + Edges.NONE, "meets(0, 2, 0, 73)" + Edges.NONE,
                "meets(0, 3, 72, 73)" + Edges.NONE, "meets(0, 3, 75, 75)" + Edges.NONE);
        edges.tell(11, "one count ahead of the end there is no meeting", far, "meets(0, 1, 66, 0) = 88;"
                + "meets(0, 1, 69, 0)" + Edges.NONE, "meets(0, 1, 6, 0) = 8");
        for (String right : new String[] {"MIN", "MAX", "-2147483647", "2147483612", "-2147483612"}) {
            edges.tell(11, "so far to the right that a sum wraps around: " + right, far,
                    "meets(0, 1, " + right + ", 0)" + Edges.NONE, "meets(1, 0, " + right + ", 0)" + Edges.NONE);
            edges.tell(11, "so far forward that a sum wraps around: " + right, far,
                    "meets(0, 3, 72, " + right + ")" + Edges.NONE, "meets(3, 0, -72, " + right + ")" + Edges.NONE,
                    "meets(0, 0, 0, " + right + ")" + Edges.NONE, "meets(0, 0, " + right + ", " + right + ")"
                    + Edges.NONE);
        }
        for (String right : new String[] {"65536", "256", "-65536", "1000000"}) {
            edges.tell(11, "far apart by " + right, far, "meets(0, 0, " + right + ", 0)" + Edges.NONE,
                    "meets(0, 0, 0, " + right + ")" + Edges.NONE);
        }
    }

    private static final String FOUR = Edges.times(4, "step('b', 'b', 1, 0, 0)");

    /** A phrase of these steps, not mirrored; its number is told by how many there were. */
    private static String phraseOf(int number, String steps) {
        StringBuilder calls = new StringBuilder("phrase();");
        for (char step : steps.toCharArray()) {
            calls.append("add(").append(number).append(", ").append(step).append(", false);");
        }
        return calls.toString();
    }

    private static void changed(String what, String one, String other, int due) {
        edges.tell(12, what, FOUR, phraseOf(0, one), phraseOf(1, other), "changes(0, 1) = " + due + "; changes(1, 0) = "
                + due + "; changes(0, 0) = 0; changes(1, 1) = 0");
    }

    private static void changes() {
        changed("both without items", "", "", 0);
        changed("the one without items", "", "012", 3);
        changed("one item against none", "0", "", 1);
        changed("the same items", "0123", "0123", 0);
        changed("the first one taken away", "0123", "123", 1);
        changed("one between taken away", "0123", "013", 1);
        changed("the last one taken away", "0123", "012", 1);
        changed("one put in place of the first", "0123", "1123", 1);
        changed("one put in place of the last", "0123", "0120", 1);
        changed("two exchanged", "0123", "0213", 2);
        changed("the first one to the end", "0123", "1230", 2);
        changed("one item for another", "0", "1", 1);
        changed("all of them", "0000", "1111", 4);
        changed("of one kind", "0000", "00", 2);
        changed("kept ones far apart", "0112", "3011", 2);
        edges.tell(12, "mirrored is another item", FOUR, phraseOf(0, "01"), "mirror(0) = 1; changes(0, 1) = 2;"
                + "take(1); add(1, 1, false); changes(0, 1) = 1; changes(1, 0) = 1");
        edges.tell(12, "by now", FOUR, phraseOf(0, "01"), phraseOf(1, "01"), "changes(0, 1) = 0; add(0, 2, false);"
                + "changes(0, 1) = 1; add(1, 2, false); changes(0, 1) = 0; take(0); take(0); take(0); changes(0, 1) = 3");
        edges.tell(12, "a short one behind a long one", FOUR, phraseOf(0, "0123"), phraseOf(1, "3"), phraseOf(2, ""),
                "changes(0, 0) = 0; changes(1, 2) = 1; changes(2, 2) = 0; changes(0, 1) = 3; changes(2, 1) = 1");
    }

    private static void changesOfFull() {
        changed("12 items against none", "012301230123", "", 12);
        changed("12 items against 12 others", "000000000000", "111111111111", 12);
        changed("12 items against the same", "012301230123", "012301230123", 0);
        changed("12 items against 11, the first one taken away", "012301230123", "12301230123", 1);
        changed("12 items moved by one", "012301230123", "123012301230", 2);
        changed("12 items against one of them", "012301230123", "3", 11);
        changed("12 items against another one", "000000000000", "3", 12);
        edges.tell(12, "12 items mirrored", FOUR, phraseOf(0, "012301230123"), "mirror(0); changes(0, 1) = 12;"
                + "changes(1, 0) = 12; changes(1, 1) = 0");
    }

    private static void bridge() {
        String steps = "step('l', 'l', 1, 0, 0); step('b', 'b', 1, 0, 0);";
        // The phrases are on the left, on the right and on both feet, and one has no items.
        String phrases = "phrase(); add(0, 0, false); phrase(); add(1, 0, true); phrase(); add(2, 1, false); phrase();";
        edges.tell(13, "0 items if these are the same", steps, phrases, "bridge(0, 0) = 0; bridge(1, 1) = 0;"
                + "bridge(2, 2) = 0");
        edges.tell(13, "there is none", steps, phrases, "bridge(0, 1)" + Edges.NONE, "bridge(1, 0)" + Edges.NONE,
                "bridge(0, 2)" + Edges.NONE, "bridge(2, 0)" + Edges.NONE, "bridge(1, 2)" + Edges.NONE,
                "bridge(2, 1)" + Edges.NONE);
        edges.tell(13, "one has no items", steps, phrases, "bridge(0, 3)" + Edges.UNFIT, "bridge(3, 0)" + Edges.UNFIT,
                "bridge(3, 3)" + Edges.UNFIT);
        edges.tell(13, "all items of the one are taken", steps, phrases, "take(0); bridge(0, 1)" + Edges.UNFIT,
                "bridge(1, 0)" + Edges.UNFIT);
        edges.tell(13, "one item", steps, phrases, "step('l', 'r', 1, 0, 0); bridge(0, 1) = 1; bridge(1, 0) = 1;"
                + "bridge(0, 2)" + Edges.NONE, "bridge(2, 1)" + Edges.NONE);
        edges.tell(13, "one item, mirrored", steps, phrases, "step('r', 'b', 1, 0, 0); bridge(0, 2) = 1;"
                + "bridge(1, 2) = 1; bridge(2, 0)" + Edges.NONE, "bridge(0, 1)" + Edges.NONE);
        edges.tell(13, "two items", steps, phrases, "step('r', 'b', 1, 0, 0); step('b', 'l', 1, 0, 0);"
                + "bridge(0, 1) = 2; bridge(1, 0) = 2; bridge(0, 2) = 1; bridge(2, 0) = 1; bridge(2, 1) = 1");
        edges.tell(13, "the shortest one", steps, phrases, "step('r', 'b', 1, 0, 0); step('b', 'l', 1, 0, 0);"
                + "bridge(0, 1) = 2; step('r', 'l', 1, 0, 0); bridge(0, 1) = 1; bridge(0, 0) = 0");
        edges.tell(13, "by the sixteenth step", steps, phrases, "13 * step('b', 'b', 1, 0, 0); bridge(0, 1)"
                + Edges.NONE, "step('l', 'r', 1, 0, 0) = 15; bridge(0, 1) = 1");
        edges.tell(13, "from the end of a phrase to the beginning of the same", "step('l', 'b', 1, 0, 0); phrase();"
                + "add(0, 0, false); bridge(0, 0)" + Edges.NONE, "step('b', 'r', 1, 0, 0); bridge(0, 0) = 1");
        edges.tell(13, "by the first step, mirrored", "step('l', 'r', 1, 0, 0); phrase(); add(0, 0, false);"
                + "bridge(0, 0) = 1");
        edges.tell(13, "by the first step as the last item", "step('b', 'l', 1, 0, 0); step('r', 'b', 1, 0, 0);"
                + "phrase(); add(0, 1, true); add(0, 0, false); phrase(); add(1, 1, false); bridge(0, 0) = 0;"
                + "bridge(0, 1) = 2; bridge(1, 0) = 1");
        edges.tell(13, "a new object has no phrases", "bridge(0, 0)" + Edges.INDEX);
    }

    /** Each single step leads from its weight to the other one, and mirrored from that to this. */
    private static void bridgeByWeights() {
        for (char end : WEIGHTS.toCharArray()) {
            for (char begin : WEIGHTS.toCharArray()) {
                // The phrase 0 begins and ends on the one weight, the phrase 1 on the other.
                String phrases = "step('" + end + "', '" + end + "', 1, 0, 0); step('" + begin + "', '" + begin
                        + "', 1, 0, 0); phrase(); add(0, 0, false); phrase(); add(1, 1, false);";
                String there = end == begin ? " = 0;" : " = 1;";
                edges.tell(13, "by the one step from " + end + " to " + begin, phrases, "step('" + end + "', '" + begin
                        + "', 1, 0, 0); bridge(0, 1)" + there);
                boolean isBothWays = end == begin || mirrored(end) == begin;
                edges.tell(13, "back by the one step from " + end + " to " + begin, phrases, "step('" + end + "', '"
                        + begin + "', 1, 0, 0); bridge(1, 0)" + (isBothWays ? there : Edges.NONE));
            }
        }
    }
}
