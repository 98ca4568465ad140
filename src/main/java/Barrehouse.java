import java.util.ArrayList;
import java.util.NoSuchElementException;

/** A ballet company by the day: steps, phrases, dancers, works, evenings, shoes and bills. */
public final class Barrehouse {
    private static final int MOST_STEPS = 16;
    private static final int MOST_PHRASES = 12;
    private static final int MOST_ITEMS = 12;
    private static final int MOST_DANCERS = 12;
    private static final int MOST_WORKS = 4;
    private static final int MOST_ROLES_OF_A_WORK = 4;
    private static final int MOST_ROLES = MOST_WORKS * MOST_ROLES_OF_A_WORK;
    private static final int MOST_EVENINGS = 11;

    private static final int MOST_COUNTS = 8;
    private static final int FARTHEST_WAY = 3;
    private static final int LEAST_TEMPO = 40;
    private static final int GREATEST_TEMPO = 200;
    private static final int HIGHEST_RANK = 5;
    private static final int LEAST_HEIGHT = 150;
    private static final int GREATEST_HEIGHT = 200;
    private static final int LEAST_STAMINA = 10;
    private static final int GREATEST_STAMINA = 99;
    private static final int GREATEST_WEIGHT = 9;
    private static final int HEAVY_FROM = 6;
    private static final int LAST_DAY = 999;
    private static final int MOST_DAYS = 99;
    private static final int REST_OF_A_DAY = 5;

    private static final int MOST_HOURS = 50;
    private static final int HOURS_OF_AN_ITEM = 2;
    private static final int HOURS_OF_A_PAIR = 5;

    private static final int MOST_PAIRS = 9;
    private static final int GREATEST_HARDNESS = 5;
    private static final int MINUTES_OF_HARDNESS = 10;
    private static final int MOST_MINUTES = MINUTES_OF_HARDNESS * GREATEST_HARDNESS;
    private static final int COUNTS_OF_A_MINUTE = 4;

    private static final int COST_OF_A_PAIR = 20;
    private static final int COST_OF_HARDNESS = 2;
    private static final int COST_OF_A_DANCER = 50;
    private static final int COST_OF_A_RANK = 50;

    private static final char LEFT = 'l';
    private static final char RIGHT = 'r';
    private static final char BOTH = 'b';
    private static final int WEIGHTS = 3;

    private static final char BARRED_DAY = 'd';
    private static final char BARRED_HURT = 'i';
    private static final char BARRED_RANK = 'k';
    private static final char BARRED_HEIGHT = 'h';
    private static final char BARRED_LEARNING = 'n';
    private static final char BARRED_OTHER_ROLE = 'o';
    private static final char BARRED_PAIR = 'p';
    private static final char BARRED_REST = 'r';
    private static final char NOT_BARRED = '-';

    private final ArrayList<Step> steps = new ArrayList<>();
    private final ArrayList<Phrase> phrases = new ArrayList<>();
    private final ArrayList<Dancer> dancers = new ArrayList<>();
    private final ArrayList<Work> works = new ArrayList<>();
    private final ArrayList<Role> roles = new ArrayList<>();
    private final ArrayList<Evening> evenings = new ArrayList<>();
    private final int[] changesRow = new int[MOST_ITEMS + 1];
    private final CastSearch search = new CastSearch();
    private int today = 0;
    private int bills = 0;

    public Barrehouse() {
    }

    // Steps and phrases.

    public int step(char from, char to, int counts, int right, int forward)
            throws IllegalArgumentException, IllegalStateException {
        if (!isWeight(from) || !isWeight(to)) {
            throw new IllegalArgumentException("there is no such weight");
        }
        requireRange(counts, 1, MOST_COUNTS);
        requireRange(right, -FARTHEST_WAY, FARTHEST_WAY);
        requireRange(forward, -FARTHEST_WAY, FARTHEST_WAY);
        requireRoom(steps.size(), MOST_STEPS);
        steps.add(new Step(from, to, counts, right, forward));
        return steps.size() - 1;
    }

    public int tempi(int step, int least, int greatest)
            throws IndexOutOfBoundsException, IllegalArgumentException {
        Step told = stepAt(step);
        requireRange(least, LEAST_TEMPO, GREATEST_TEMPO);
        requireRange(greatest, least, GREATEST_TEMPO);
        int before = told.slowest;
        told.slowest = least;
        told.fastest = greatest;
        return before;
    }

    public int phrase() throws IllegalStateException {
        requireRoom(phrases.size(), MOST_PHRASES);
        phrases.add(new Phrase());
        return phrases.size() - 1;
    }

    public int add(int phrase, int step, boolean isMirrored)
            throws IndexOutOfBoundsException, UnsupportedOperationException, IllegalStateException {
        Phrase told = phraseAt(phrase);
        Item item = new Item(stepAt(step), isMirrored);
        if (!told.isJoinedBy(item)) {
            throw new UnsupportedOperationException("it does not begin on the weight on which the phrase ends");
        }
        requireRoom(told.items.size(), MOST_ITEMS);
        told.items.add(item);
        return told.allCounts();
    }

    public int take(int phrase) throws IndexOutOfBoundsException, UnsupportedOperationException {
        Phrase told = phraseAt(phrase);
        if (told.items.isEmpty()) {
            throw new UnsupportedOperationException("the phrase has no items");
        }
        told.items.remove(told.items.size() - 1);
        return told.allCounts();
    }

    public int mirror(int phrase) throws IndexOutOfBoundsException, IllegalStateException {
        Phrase told = phraseAt(phrase);
        requireRoom(phrases.size(), MOST_PHRASES);
        phrases.add(told.mirrored());
        return phrases.size() - 1;
    }

    public char weight(int phrase, boolean isEnd) throws IndexOutOfBoundsException, NoSuchElementException {
        Phrase told = phraseAt(phrase);
        if (told.items.isEmpty()) {
            throw new NoSuchElementException("the phrase has no items");
        }
        return isEnd ? told.lastWeight() : told.firstWeight();
    }

    public int tempo(int phrase, boolean isLeast) throws IndexOutOfBoundsException, NoSuchElementException {
        Phrase told = phraseAt(phrase);
        int slowest = told.slowestTempo();
        int fastest = told.fastestTempo();
        if (slowest > fastest) {
            throw new NoSuchElementException("there is no tempo that all items allow");
        }
        return isLeast ? slowest : fastest;
    }

    public int place(int phrase, int counts, boolean isForward)
            throws IndexOutOfBoundsException, IllegalArgumentException {
        Phrase told = phraseAt(phrase);
        if (counts < 0) {
            throw new IllegalArgumentException("the counts are below 0");
        }
        return isForward ? told.forwardBehind(counts) : told.rightBehind(counts);
    }

    public int meets(int phrase, int other, int right, int forward)
            throws IndexOutOfBoundsException, NoSuchElementException {
        Phrase one = phraseAt(phrase);
        Phrase two = phraseAt(other);
        int last = Math.max(one.allCounts(), two.allCounts());
        for (int counts = 0; counts <= last; counts++) {
            // The distances are any ints, so that a sum of ints could wrap around.
            long apartRight = (long) right + two.rightBehind(counts) - one.rightBehind(counts);
            long apartForward = (long) forward + two.forwardBehind(counts) - one.forwardBehind(counts);
            if (apartRight == 0 && apartForward == 0) {
                return counts;
            }
        }
        throw new NoSuchElementException("they never are at one place");
    }

    public int changes(int phrase, int other) throws IndexOutOfBoundsException {
        return phraseAt(phrase).changesTo(phraseAt(other), changesRow);
    }

    public int bridge(int phrase, int other)
            throws IndexOutOfBoundsException, UnsupportedOperationException, NoSuchElementException {
        Phrase one = phraseAt(phrase);
        Phrase two = phraseAt(other);
        if (one.items.isEmpty() || two.items.isEmpty()) {
            throw new UnsupportedOperationException("a phrase has no items");
        }
        int goal = weightBit(two.firstWeight());
        int reached = weightBit(one.lastWeight());
        // The shortest bridge comes to no weight twice, and there are three of them.
        for (int items = 0; items < WEIGHTS; items++) {
            if ((reached & goal) != 0) {
                return items;
            }
            reached |= weightsBehind(reached);
        }
        throw new NoSuchElementException("there is no bridge");
    }

    // Dancers and works.

    public int dancer(int rank, int height, int stamina) throws IllegalArgumentException, IllegalStateException {
        requireRange(rank, 0, HIGHEST_RANK);
        requireRange(height, LEAST_HEIGHT, GREATEST_HEIGHT);
        requireRange(stamina, LEAST_STAMINA, GREATEST_STAMINA);
        requireRoom(dancers.size(), MOST_DANCERS);
        int number = dancers.size();
        dancers.add(new Dancer(number, rank, height, stamina));
        return number;
    }

    public int promote(int dancer) throws IndexOutOfBoundsException, UnsupportedOperationException {
        Dancer told = dancerAt(dancer);
        if (told.rank >= HIGHEST_RANK) {
            throw new UnsupportedOperationException("the rank is the highest one");
        }
        told.rank++;
        return told.rank;
    }

    public int hurt(int dancer, int days) throws IndexOutOfBoundsException, IllegalArgumentException {
        Dancer told = dancerAt(dancer);
        requireRange(days, 1, MOST_DAYS);
        told.beHurt(today, days, today);
        return told.wellFrom;
    }

    public int load(int dancer) throws IndexOutOfBoundsException {
        return dancerAt(dancer).load;
    }

    public int work() throws IllegalStateException {
        requireRoom(works.size(), MOST_WORKS);
        works.add(new Work());
        return works.size() - 1;
    }

    public int role(int work, int phrase, int rank, int low, int high, int weight)
            throws IndexOutOfBoundsException, IllegalArgumentException,
            UnsupportedOperationException, IllegalStateException {
        Work told = workAt(work);
        Phrase danced = phraseAt(phrase);
        requireRange(rank, 0, HIGHEST_RANK);
        requireRange(low, LEAST_HEIGHT, GREATEST_HEIGHT);
        requireRange(high, low, GREATEST_HEIGHT);
        requireRange(weight, 0, GREATEST_WEIGHT);
        if (told.hasEvenings) {
            throw new UnsupportedOperationException("an evening of the work was told");
        }
        requireRoom(told.roles.size(), MOST_ROLES_OF_A_WORK);
        Role made = new Role(roles.size(), told, told.roles.size(), danced);
        made.ask(rank, low, high, weight);
        told.roles.add(made);
        roles.add(made);
        return made.number;
    }

    public int partner(int role, int other)
            throws IndexOutOfBoundsException, IllegalArgumentException, UnsupportedOperationException {
        Role one = roleAt(role);
        Role two = roleAt(other);
        if (one == two || one.work != two.work) {
            throw new IllegalArgumentException("both are the same, or of unlike works");
        }
        if (one.partner != null || two.partner != null) {
            throw new UnsupportedOperationException("one has a partner");
        }
        one.partner = two;
        two.partner = one;
        return one.work.pairs();
    }

    public int learn(int dancer, int role, int hours) throws IndexOutOfBoundsException, IllegalArgumentException {
        Dancer told = dancerAt(dancer);
        Role learnt = roleAt(role);
        requireRange(hours, 1, MOST_HOURS);
        told.addHoursOf(learnt, hours);
        return told.hoursToLearn(learnt);
    }

    public boolean isLearnt(int dancer, int role) throws IndexOutOfBoundsException {
        return dancerAt(dancer).hoursToLearn(roleAt(role)) == 0;
    }

    public int rehearse(int dancer, int other, int hours)
            throws IndexOutOfBoundsException, IllegalArgumentException {
        Dancer one = dancerAt(dancer);
        Dancer two = dancerAt(other);
        if (one == two) {
            throw new IllegalArgumentException("both are the same");
        }
        requireRange(hours, 1, MOST_HOURS);
        one.addHoursWith(two, hours);
        two.addHoursWith(one, hours);
        return one.hoursWith(two);
    }

    // Evenings.

    public int evening(int work, int day, int tempo)
            throws IndexOutOfBoundsException, IllegalArgumentException,
            UnsupportedOperationException, IllegalStateException {
        Work told = workAt(work);
        requireRange(day, today, LAST_DAY);
        requireRange(tempo, LEAST_TEMPO, GREATEST_TEMPO);
        if (told.roles.isEmpty()) {
            throw new UnsupportedOperationException("the work has no roles");
        }
        requireRoom(evenings.size(), MOST_EVENINGS);
        told.hasEvenings = true;
        evenings.add(new Evening(told, day, tempo));
        return evenings.size() - 1;
    }

    public char bars(int evening, int role, int dancer) throws IndexOutOfBoundsException {
        Evening told = eveningAt(evening);
        return barOf(told, roleOn(told, role), dancerAt(dancer));
    }

    public int cast(int evening, int role, int dancer)
            throws IndexOutOfBoundsException, UnsupportedOperationException {
        Evening told = eveningAt(evening);
        Role danced = roleOn(told, role);
        Dancer anew = dancerAt(dancer);
        Dancer before = told.dancerOf(danced);
        if (before == anew || barOf(told, danced, anew) != NOT_BARRED) {
            throw new UnsupportedOperationException("something bars the dancer, or the dancer has this role");
        }
        told.give(danced, anew);
        return numberOf(before);
    }

    public int drop(int evening, int role) throws IndexOutOfBoundsException, UnsupportedOperationException {
        Evening told = eveningAt(evening);
        Role danced = roleOn(told, role);
        Dancer before = told.dancerOf(danced);
        if (before == null || told.isDanced) {
            throw new UnsupportedOperationException("it is not cast, or the evening was danced");
        }
        told.give(danced, null);
        return before.number;
    }

    public int who(int evening, int role) throws IndexOutOfBoundsException, NoSuchElementException {
        Evening told = eveningAt(evening);
        Dancer found = told.dancerOf(roleOn(told, role));
        if (found == null) {
            throw new NoSuchElementException("nobody is cast");
        }
        return found.number;
    }

    public boolean isReady(int evening) throws IndexOutOfBoundsException {
        Evening told = eveningAt(evening);
        return told.isDanced || isReadyNow(told);
    }

    public int casts(int evening) throws IndexOutOfBoundsException {
        prepareSearch(eveningAt(evening));
        return search.wholeCasts();
    }

    public int least(int evening) throws IndexOutOfBoundsException, NoSuchElementException {
        findLeast(eveningAt(evening));
        return search.leastHours;
    }

    public int leastFor(int evening, int role) throws IndexOutOfBoundsException, NoSuchElementException {
        Evening told = eveningAt(evening);
        Role asked = roleOn(told, role);
        findLeast(told);
        return search.leastDancer(asked.place);
    }

    public int dance(int evening) throws IndexOutOfBoundsException, UnsupportedOperationException {
        Evening told = eveningAt(evening);
        if (told.isDanced || told.day != today || !isReadyNow(told) || !told.hasShoes()) {
            throw new UnsupportedOperationException("it is not ready, was danced, not its day, or shoes are lacking");
        }
        int hurtDancers = 0;
        for (int place = 0; place < told.work.roles.size(); place++) {
            Role role = told.work.roles.get(place);
            Dancer dancer = told.dancerOf(role);
            if (dancer != null && letDance(dancer, role)) {
                hurtDancers++;
            }
        }
        told.isDanced = true;
        return hurtDancers;
    }

    public int days(int days) throws IllegalArgumentException, IllegalStateException {
        requireRange(days, 1, MOST_DAYS);
        if (today + days > LAST_DAY) {
            throw new IllegalStateException("the day would be above the last one");
        }
        today += days;
        for (int number = 0; number < dancers.size(); number++) {
            Dancer dancer = dancers.get(number);
            dancer.load = Math.max(0, dancer.load - REST_OF_A_DAY * days);
            dancer.shoes.receive(today);
        }
        return today;
    }

    public int day() {
        return today;
    }

    // Shoes and sums.

    public int shoes(int dancer, int pairs, int hardness, int days)
            throws IndexOutOfBoundsException, IllegalArgumentException {
        Dancer told = dancerAt(dancer);
        requireRange(pairs, 1, MOST_PAIRS);
        requireRange(hardness, 1, GREATEST_HARDNESS);
        requireRange(days, 0, MOST_DAYS);
        told.shoes.orders.add(new Order(pairs, hardness, today + days));
        told.shoes.receive(today);
        bills += pairs * (COST_OF_A_PAIR + COST_OF_HARDNESS * hardness);
        return told.shoes.allPairs();
    }

    public int minutes(int dancer) throws IndexOutOfBoundsException {
        return dancerAt(dancer).shoes.minutesLeft();
    }

    public int bill() {
        return bills;
    }

    public long checksum() {
        long sum = 7;
        for (int number = 0; number < phrases.size(); number++) {
            sum = 31 * sum + phrases.get(number).allCounts();
        }
        for (int number = 0; number < dancers.size(); number++) {
            Dancer dancer = dancers.get(number);
            sum = 31 * sum + dancer.load;
            sum = 31 * sum + dancer.shoes.minutesLeft();
        }
        for (int number = 0; number < evenings.size(); number++) {
            Evening evening = evenings.get(number);
            for (int place = 0; place < evening.work.roles.size(); place++) {
                sum = 31 * sum + numberOf(evening.dancerOf(evening.work.roles.get(place)));
            }
        }
        return 31 * sum + bills;
    }

    public float castShare() throws NoSuchElementException {
        int cast = 0;
        int all = 0;
        for (int number = 0; number < evenings.size(); number++) {
            cast += evenings.get(number).castRoles();
            all += evenings.get(number).work.roles.size();
        }
        if (all == 0) {
            throw new NoSuchElementException("there are no evenings");
        }
        return (float) cast / (float) all;
    }

    public double meanLoad() throws NoSuchElementException {
        if (dancers.isEmpty()) {
            throw new NoSuchElementException("there are no dancers");
        }
        int sum = 0;
        for (int number = 0; number < dancers.size(); number++) {
            sum += dancers.get(number).load;
        }
        return (double) sum / (double) dancers.size();
    }

    public boolean isSound() {
        return arePhrasesSound() && areEveningsSound() && arePartnersSound();
    }

    // What the document's exceptions ask.

    private static void requireRange(int number, int low, int high) {
        if (number < low || number > high) {
            throw new IllegalArgumentException("a number is out of range");
        }
    }

    private static void requireRoom(int size, int most) {
        if (size >= most) {
            throw new IllegalStateException("there are as many as there can be");
        }
    }

    private static boolean isNumber(int number, int size) {
        return number >= 0 && number < size;
    }

    private Step stepAt(int number) {
        if (!isNumber(number, steps.size())) {
            throw new IndexOutOfBoundsException("there is no such step");
        }
        return steps.get(number);
    }

    private Phrase phraseAt(int number) {
        if (!isNumber(number, phrases.size())) {
            throw new IndexOutOfBoundsException("there is no such phrase");
        }
        return phrases.get(number);
    }

    private Dancer dancerAt(int number) {
        if (!isNumber(number, dancers.size())) {
            throw new IndexOutOfBoundsException("there is no such dancer");
        }
        return dancers.get(number);
    }

    private Work workAt(int number) {
        if (!isNumber(number, works.size())) {
            throw new IndexOutOfBoundsException("there is no such work");
        }
        return works.get(number);
    }

    private Role roleAt(int number) {
        if (!isNumber(number, roles.size())) {
            throw new IndexOutOfBoundsException("there is no such role");
        }
        return roles.get(number);
    }

    private Evening eveningAt(int number) {
        if (!isNumber(number, evenings.size())) {
            throw new IndexOutOfBoundsException("there is no such evening");
        }
        return evenings.get(number);
    }

    private Role roleOn(Evening evening, int number) {
        Role role = roleAt(number);
        if (role.work != evening.work) {
            throw new IndexOutOfBoundsException("there is no such role in the evening's work");
        }
        return role;
    }

    // Weights and phrases.

    private static boolean isWeight(char weight) {
        return weight == LEFT || weight == RIGHT || weight == BOTH;
    }

    private static char mirroredWeight(char weight) {
        if (weight == LEFT) {
            return RIGHT;
        }
        return weight == RIGHT ? LEFT : weight;
    }

    private static int weightBit(char weight) {
        if (weight == LEFT) {
            return 1;
        }
        return weight == RIGHT ? 2 : 4;
    }

    private int weightsBehind(int reached) {
        int behind = 0;
        for (int number = 0; number < steps.size(); number++) {
            Step step = steps.get(number);
            if ((reached & weightBit(step.from)) != 0) {
                behind |= weightBit(step.to);
            }
            if ((reached & weightBit(mirroredWeight(step.from))) != 0) {
                behind |= weightBit(mirroredWeight(step.to));
            }
        }
        return behind;
    }

    // Evenings and their casts.

    private static int numberOf(Dancer dancer) {
        return dancer == null ? -1 : dancer.number;
    }

    private char barOf(Evening evening, Role role, Dancer dancer) {
        char bar = barOfPerson(evening, role, dancer);
        if (bar != NOT_BARRED) {
            return bar;
        }
        if (dancer.hoursToLearn(role) > 0) {
            return BARRED_LEARNING;
        }
        if (evening.hasOtherRole(role, dancer)) {
            return BARRED_OTHER_ROLE;
        }
        Dancer partner = role.partner == null ? null : evening.dancerOf(role.partner);
        if (partner != null && dancer.hoursToPair(partner) > 0) {
            return BARRED_PAIR;
        }
        return lacksRest(evening, role, dancer) ? BARRED_REST : NOT_BARRED;
    }

    private char barOfPerson(Evening evening, Role role, Dancer dancer) {
        if (evening.isDanced || evening.day < today) {
            return BARRED_DAY;
        }
        if (dancer.isHurtOn(evening.day)) {
            return BARRED_HURT;
        }
        if (!role.suitsRank(dancer)) {
            return BARRED_RANK;
        }
        return role.suitsHeight(dancer) ? NOT_BARRED : BARRED_HEIGHT;
    }

    private boolean lacksRest(Evening evening, Role role, Dancer dancer) {
        if (!role.isHeavy()) {
            return false;
        }
        for (int number = 0; number < evenings.size(); number++) {
            Evening other = evenings.get(number);
            boolean isNear = Math.abs(other.day - evening.day) <= 1;
            if (other != evening && isNear && other.hasHeavyRole(dancer)) {
                return true;
            }
        }
        return false;
    }

    private boolean isReadyNow(Evening evening) {
        for (int place = 0; place < evening.work.roles.size(); place++) {
            Role role = evening.work.roles.get(place);
            Dancer dancer = evening.dancerOf(role);
            if (dancer == null || barOf(evening, role, dancer) != NOT_BARRED) {
                return false;
            }
            if (!role.phrase.allowsTempo(evening.tempo)) {
                return false;
            }
        }
        return true;
    }

    /** Lets a dancer dance a role, and tells whether that hurts. */
    private boolean letDance(Dancer dancer, Role role) {
        dancer.shoes.wear(role.minutesOfShoes());
        bills += COST_OF_A_DANCER + COST_OF_A_RANK * dancer.rank;
        dancer.load += role.weight;
        int above = dancer.load - dancer.stamina;
        if (above <= 0) {
            return false;
        }
        dancer.beHurt(today + 1, above, today);
        return true;
    }

    private void prepareSearch(Evening evening) {
        search.begin(evening.work.roles.size(), dancers.size());
        for (int place = 0; place < evening.work.roles.size(); place++) {
            Role role = evening.work.roles.get(place);
            search.setPartner(place, role.partner == null ? -1 : role.partner.place);
            for (int number = 0; number < dancers.size(); number++) {
                search.setHours(place, number, hoursInSearch(evening, role, dancers.get(number)));
            }
        }
        for (int number = 0; number < dancers.size(); number++) {
            for (int other = 0; other < dancers.size(); other++) {
                search.setPairHours(number, other, dancers.get(number).hoursToPair(dancers.get(other)));
            }
        }
    }

    private int hoursInSearch(Evening evening, Role role, Dancer dancer) {
        boolean isBarred = barOfPerson(evening, role, dancer) != NOT_BARRED || lacksRest(evening, role, dancer);
        return isBarred ? CastSearch.BARRED : dancer.hoursToLearn(role);
    }

    private void findLeast(Evening evening) {
        prepareSearch(evening);
        if (!search.hasLeast()) {
            throw new NoSuchElementException("there is no cast with rehearsals");
        }
    }

    // Soundness.

    private boolean arePhrasesSound() {
        for (int number = 0; number < phrases.size(); number++) {
            Phrase phrase = phrases.get(number);
            if (!phrase.isJoined() || phrase.changesTo(phrase, changesRow) != 0) {
                return false;
            }
        }
        return true;
    }

    private boolean areEveningsSound() {
        for (int number = 0; number < evenings.size(); number++) {
            if (!evenings.get(number).isCastSound()) {
                return false;
            }
        }
        return true;
    }

    private boolean arePartnersSound() {
        for (int number = 0; number < roles.size(); number++) {
            Role role = roles.get(number);
            if (role.partner != null && role.partner.partner != role) {
                return false;
            }
        }
        return true;
    }

    private static final class Step {
        final char from;
        final char to;
        final int counts;
        final int right;
        final int forward;
        int slowest = LEAST_TEMPO;
        int fastest = GREATEST_TEMPO;

        Step(char from, char to, int counts, int right, int forward) {
            this.from = from;
            this.to = to;
            this.counts = counts;
            this.right = right;
            this.forward = forward;
        }
    }

    /** A step in a phrase, mirrored or not. */
    private static final class Item {
        final Step step;
        final boolean isMirrored;

        Item(Step step, boolean isMirrored) {
            this.step = step;
            this.isMirrored = isMirrored;
        }

        char firstWeight() {
            return isMirrored ? mirroredWeight(step.from) : step.from;
        }

        char lastWeight() {
            return isMirrored ? mirroredWeight(step.to) : step.to;
        }

        int wayRight() {
            return isMirrored ? -step.right : step.right;
        }

        boolean isLike(Item other) {
            return step == other.step && isMirrored == other.isMirrored;
        }
    }

    private static final class Phrase {
        final ArrayList<Item> items = new ArrayList<>();

        Phrase mirrored() {
            Phrase made = new Phrase();
            for (int at = 0; at < items.size(); at++) {
                Item item = items.get(at);
                made.items.add(new Item(item.step, !item.isMirrored));
            }
            return made;
        }

        int allCounts() {
            int counts = 0;
            for (int at = 0; at < items.size(); at++) {
                counts += items.get(at).step.counts;
            }
            return counts;
        }

        /** Of a phrase without items it is 'b', for which no caller asks. */
        char firstWeight() {
            return items.isEmpty() ? BOTH : items.get(0).firstWeight();
        }

        char lastWeight() {
            return items.isEmpty() ? BOTH : items.get(items.size() - 1).lastWeight();
        }

        boolean isJoinedBy(Item item) {
            return items.isEmpty() || lastWeight() == item.firstWeight();
        }

        boolean isJoined() {
            for (int at = 1; at < items.size(); at++) {
                if (items.get(at - 1).lastWeight() != items.get(at).firstWeight()) {
                    return false;
                }
            }
            return true;
        }

        int slowestTempo() {
            int tempo = LEAST_TEMPO;
            for (int at = 0; at < items.size(); at++) {
                tempo = Math.max(tempo, items.get(at).step.slowest);
            }
            return tempo;
        }

        int fastestTempo() {
            int tempo = GREATEST_TEMPO;
            for (int at = 0; at < items.size(); at++) {
                tempo = Math.min(tempo, items.get(at).step.fastest);
            }
            return tempo;
        }

        boolean allowsTempo(int tempo) {
            return tempo >= slowestTempo() && tempo <= fastestTempo();
        }

        int rightBehind(int counts) {
            int gone = 0;
            int ended = itemsBehind(counts);
            for (int at = 0; at < ended; at++) {
                gone += items.get(at).wayRight();
            }
            return gone;
        }

        int forwardBehind(int counts) {
            int gone = 0;
            int ended = itemsBehind(counts);
            for (int at = 0; at < ended; at++) {
                gone += items.get(at).step.forward;
            }
            return gone;
        }

        /** How many items have ended, as a way comes with the last count of its item. */
        int itemsBehind(int counts) {
            int left = counts;
            for (int at = 0; at < items.size(); at++) {
                left -= items.get(at).step.counts;
                if (left < 0) {
                    return at;
                }
            }
            return items.size();
        }

        /** The row holds the changes from the items up to one of them to each beginning of the other phrase. */
        int changesTo(Phrase other, int[] row) {
            // No phrase has so many items that the row would be too short; the index is bounded all the same.
            int length = Math.min(other.items.size(), row.length - 1);
            for (int to = 0; to <= length; to++) {
                row[to] = to;
            }
            for (int from = 1; from <= items.size(); from++) {
                int aslant = row[0];
                row[0] = from;
                for (int to = 1; to <= length; to++) {
                    boolean isKept = items.get(from - 1).isLike(other.items.get(to - 1));
                    int replaced = isKept ? aslant : aslant + 1;
                    aslant = row[to];
                    row[to] = Math.min(replaced, 1 + Math.min(row[to], row[to - 1]));
                }
            }
            return row[length];
        }
    }

    private static final class Dancer {
        final int number;
        final int height;
        final int stamina;
        final Shoes shoes = new Shoes();
        final int[] roleHours = new int[MOST_ROLES];
        final int[] pairHours = new int[MOST_DANCERS];
        int rank;
        int load = 0;
        int hurtFrom = 0;
        int wellFrom = 0;

        Dancer(int number, int rank, int height, int stamina) {
            this.number = number;
            this.rank = rank;
            this.height = height;
            this.stamina = stamina;
        }

        boolean isHurtOn(int day) {
            return day >= hurtFrom && day < wellFrom;
        }

        void beHurt(int from, int days, int today) {
            // Who dances into a hurt is well for the rest of today, also behind a hurt that is over.
            boolean isOver = wellFrom <= today;
            hurtFrom = isOver ? from : Math.min(hurtFrom, from);
            wellFrom = Math.max(wellFrom, from + days);
        }

        void addHoursOf(Role role, int hours) {
            if (isNumber(role.number, roleHours.length)) {
                roleHours[role.number] += hours;
            }
        }

        int hoursToLearn(Role role) {
            int done = isNumber(role.number, roleHours.length) ? roleHours[role.number] : 0;
            return Math.max(0, HOURS_OF_AN_ITEM * role.phrase.items.size() - done);
        }

        void addHoursWith(Dancer other, int hours) {
            if (isNumber(other.number, pairHours.length)) {
                pairHours[other.number] += hours;
            }
        }

        int hoursWith(Dancer other) {
            return isNumber(other.number, pairHours.length) ? pairHours[other.number] : 0;
        }

        int hoursToPair(Dancer other) {
            return Math.max(0, HOURS_OF_A_PAIR - hoursWith(other));
        }
    }

    /** Pairs of one kind that a dancer waits for. */
    private static final class Order {
        final int pairs;
        final int hardness;
        final int day;

        Order(int pairs, int hardness, int day) {
            this.pairs = pairs;
            this.hardness = hardness;
            this.day = day;
        }
    }

    /** The pairs of a dancer; those that can be worn are counted by their minutes, as like ones are worn alike. */
    private static final class Shoes {
        final int[] pairsByMinutes = new int[MOST_MINUTES + 1];
        final ArrayList<Order> orders = new ArrayList<>();

        void receive(int today) {
            for (int at = orders.size() - 1; at >= 0; at--) {
                Order order = orders.get(at);
                int minutes = MINUTES_OF_HARDNESS * order.hardness;
                if (order.day <= today && isNumber(minutes, pairsByMinutes.length)) {
                    pairsByMinutes[minutes] += order.pairs;
                    orders.remove(at);
                }
            }
        }

        int minutesLeft() {
            int sum = 0;
            for (int minutes = 1; minutes < pairsByMinutes.length; minutes++) {
                sum += minutes * pairsByMinutes[minutes];
            }
            return sum;
        }

        int allPairs() {
            int sum = 0;
            for (int minutes = 1; minutes < pairsByMinutes.length; minutes++) {
                sum += pairsByMinutes[minutes];
            }
            for (int at = 0; at < orders.size(); at++) {
                sum += orders.get(at).pairs;
            }
            return sum;
        }

        void wear(int needed) {
            int due = needed;
            for (int minutes = 1; minutes < pairsByMinutes.length && due > 0; minutes++) {
                int wornOut = Math.min(pairsByMinutes[minutes], due / minutes);
                pairsByMinutes[minutes] -= wornOut;
                due -= wornOut * minutes;
                if (pairsByMinutes[minutes] > 0 && due > 0 && due < minutes) {
                    pairsByMinutes[minutes]--;
                    pairsByMinutes[minutes - due]++;
                    due = 0;
                }
            }
        }
    }

    private static final class Work {
        final ArrayList<Role> roles = new ArrayList<>();
        boolean hasEvenings = false;

        int pairs() {
            int withPartner = 0;
            for (int place = 0; place < roles.size(); place++) {
                if (roles.get(place).partner != null) {
                    withPartner++;
                }
            }
            return withPartner / 2;
        }
    }

    private static final class Role {
        final int number;
        final Work work;
        final int place;
        final Phrase phrase;
        int rank = 0;
        int low = LEAST_HEIGHT;
        int high = GREATEST_HEIGHT;
        int weight = 0;
        Role partner = null;

        Role(int number, Work work, int place, Phrase phrase) {
            this.number = number;
            this.work = work;
            this.place = place;
            this.phrase = phrase;
        }

        void ask(int rank, int low, int high, int weight) {
            this.rank = rank;
            this.low = low;
            this.high = high;
            this.weight = weight;
        }

        boolean suitsRank(Dancer dancer) {
            return dancer.rank >= rank;
        }

        boolean suitsHeight(Dancer dancer) {
            return dancer.height >= low && dancer.height <= high;
        }

        boolean isHeavy() {
            return weight >= HEAVY_FROM;
        }

        int minutesOfShoes() {
            return (phrase.allCounts() + COUNTS_OF_A_MINUTE - 1) / COUNTS_OF_A_MINUTE;
        }
    }

    private static final class Evening {
        final Work work;
        final int day;
        final int tempo;
        final Dancer[] dancers = new Dancer[MOST_ROLES_OF_A_WORK];
        boolean isDanced = false;

        Evening(Work work, int day, int tempo) {
            this.work = work;
            this.day = day;
            this.tempo = tempo;
        }

        Dancer dancerOf(Role role) {
            return isNumber(role.place, dancers.length) ? dancers[role.place] : null;
        }

        void give(Role role, Dancer dancer) {
            if (isNumber(role.place, dancers.length)) {
                dancers[role.place] = dancer;
            }
        }

        boolean hasOtherRole(Role role, Dancer dancer) {
            for (int place = 0; place < dancers.length; place++) {
                if (place != role.place && dancers[place] == dancer) {
                    return true;
                }
            }
            return false;
        }

        boolean hasHeavyRole(Dancer dancer) {
            for (int place = 0; place < work.roles.size() && place < dancers.length; place++) {
                if (dancers[place] == dancer && work.roles.get(place).isHeavy()) {
                    return true;
                }
            }
            return false;
        }

        boolean hasShoes() {
            for (int place = 0; place < work.roles.size(); place++) {
                Role role = work.roles.get(place);
                Dancer dancer = dancerOf(role);
                if (dancer == null || dancer.shoes.minutesLeft() < role.minutesOfShoes()) {
                    return false;
                }
            }
            return true;
        }

        int castRoles() {
            int cast = 0;
            for (int place = 0; place < dancers.length; place++) {
                if (dancers[place] != null) {
                    cast++;
                }
            }
            return cast;
        }

        boolean isCastSound() {
            for (int place = 0; place < work.roles.size(); place++) {
                Role role = work.roles.get(place);
                Dancer dancer = dancerOf(role);
                if (dancer == null) {
                    continue;
                }
                if (hasOtherRole(role, dancer) || !role.suitsRank(dancer) || !role.suitsHeight(dancer)) {
                    return false;
                }
            }
            return true;
        }
    }

    /**
     * Goes through the casts with rehearsals of one evening, by places of roles and numbers of dancers.
     * A whole cast is one of these that needs no hours. The rows are made once, as a search is a frequent call.
     */
    private static final class CastSearch {
        static final int BARRED = -1;
        // A cast needs 106 hours at most: 24 for each of four roles, and 5 for each of two pairs.
        static final int MORE_THAN_ANY = 1000000;

        final int[][] hours = new int[MOST_ROLES_OF_A_WORK][MOST_DANCERS];
        final int[][] pairHours = new int[MOST_DANCERS][MOST_DANCERS];
        final int[] partners = new int[MOST_ROLES_OF_A_WORK];
        final int[] restHours = new int[MOST_ROLES_OF_A_WORK + 1];
        final int[] chosen = new int[MOST_ROLES_OF_A_WORK];
        final int[] leastCast = new int[MOST_ROLES_OF_A_WORK];
        int places = 0;
        int dancers = 0;
        int leastHours = 0;

        void begin(int places, int dancers) {
            this.places = Math.min(places, MOST_ROLES_OF_A_WORK);
            this.dancers = Math.min(dancers, MOST_DANCERS);
        }

        void setPartner(int place, int partner) {
            if (isNumber(place, places)) {
                partners[place] = partner;
            }
        }

        void setHours(int place, int dancer, int needed) {
            if (isNumber(place, places) && isNumber(dancer, dancers)) {
                hours[place][dancer] = needed;
            }
        }

        void setPairHours(int dancer, int other, int needed) {
            if (isNumber(dancer, dancers) && isNumber(other, dancers)) {
                pairHours[dancer][other] = needed;
            }
        }

        int leastDancer(int place) {
            return isNumber(place, places) ? leastCast[place] : BARRED;
        }

        int wholeCasts() {
            return wholeCastsFrom(this, 0, 0);
        }

        boolean hasLeast() {
            restHours[places] = 0;
            for (int place = places - 1; place >= 0; place--) {
                restHours[place] = restHours[place + 1] + fewestHours(place);
            }
            leastHours = MORE_THAN_ANY;
            seekLeastFrom(this, 0, 0, 0);
            return leastHours < MORE_THAN_ANY;
        }

        private int fewestHours(int place) {
            int fewest = MORE_THAN_ANY;
            for (int dancer = 0; dancer < dancers; dancer++) {
                int needed = hours[place][dancer];
                if (needed != BARRED) {
                    fewest = Math.min(fewest, needed);
                }
            }
            return fewest == MORE_THAN_ANY ? 0 : fewest;
        }

        /** The hours that are missing for a dancer beside those chosen for the places ahead, or BARRED. */
        private int hoursAt(int place, int dancer, int used) {
            int needed = hours[place][dancer];
            if (needed == BARRED || (used & (1 << dancer)) != 0) {
                return BARRED;
            }
            int partner = partners[place];
            int other = partner >= 0 && partner < place ? chosen[partner] : BARRED;
            return isNumber(other, dancers) ? needed + pairHours[other][dancer] : needed;
        }

        private static int wholeCastsFrom(CastSearch search, int place, int used) {
            if (place >= search.places) {
                return 1;
            }
            int count = 0;
            for (int dancer = 0; dancer < search.dancers; dancer++) {
                if (search.hoursAt(place, dancer, used) == 0) {
                    search.chosen[place] = dancer;
                    count += wholeCastsFrom(search, place + 1, used | (1 << dancer));
                }
            }
            return count;
        }

        private static void seekLeastFrom(CastSearch search, int place, int used, int done) {
            if (place >= search.places) {
                search.leastHours = done;
                System.arraycopy(search.chosen, 0, search.leastCast, 0, search.places);
                return;
            }
            for (int dancer = 0; dancer < search.dancers; dancer++) {
                int needed = search.hoursAt(place, dancer, used);
                // Of like casts the first one stays, so that only one with fewer hours is worth a look.
                if (needed != BARRED && done + needed + search.restHours[place + 1] < search.leastHours) {
                    search.chosen[place] = dancer;
                    seekLeastFrom(search, place + 1, used | (1 << dancer), done + needed);
                }
            }
        }
    }
}
