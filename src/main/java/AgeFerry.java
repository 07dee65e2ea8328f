/** A ferry on which a boat pays a penny for each year between its eldest and its youngest. */
public final class AgeFerry {
    public static final int NONE = -1, BAD = -2, NOT = -3, FULL = -4;

    private static final int LEAST_INT = -2147483648;
    private static final int GREATEST_INT = 2147483647;
    private static final long LEAST_LONG = -9223372036854775808L;
    private static final int NUMBERS = 10;
    private static final int MOST_WEIGHT = 99;
    private static final int LONGEST_LIE = 30;
    private static final int SHEETS = 4;
    private static final int NULL = 1, INDEX = 2, CAST = 3, STORE = 4, LENGTH = 5;
    private static final int SHARERS = 6;
    private static final int RETURNERS = 8;

    private final People people;
    private final Rules rules;
    private final Days days;
    private final Trip trip;
    private final Sightings sightings;
    private final Sheet[] sheets;
    private final int[] boats;
    private int latestFinding;

    public AgeFerry() {
        people = new People();
        rules = new Rules();
        days = new Days(people, rules);
        trip = new Trip(days);
        sightings = new Sightings();
        sheets = new Sheet[SHEETS];
        for (int s = 0; s < SHEETS; s++) {
            sheets[s] = new Sheet();
        }
        boats = new int[NUMBERS];
    }

    // ---- people, law

    public int type(int b) {
        if (!isWithin(b, 0, 255)) {
            return BAD;
        }
        if (people.isTextFull()) {
            return FULL;
        }
        days.outdate();
        return people.append(b);
    }

    public int wipe() {
        days.outdate();
        return people.erase();
    }

    public int fault() {
        return people.fault;
    }

    public int person(int person, int what) {
        if (!people.isThere(person) || !isWithin(what, 0, 1)) {
            return BAD;
        }
        return what == 0 ? people.ages[person] : people.told[person];
    }

    public int put(int number, int what, int v) {
        if (!isNumber(number) || !isWithin(what, 0, 1) || !isWithin(v, 0, MOST_WEIGHT)) {
            return BAD;
        }
        days.outdate();
        return exchange(what == 0 ? people.weights : people.hours, number, v);
    }

    public int lie(int number, int v) {
        if (!isNumber(number) || !isWithin(v, -LONGEST_LIE, LONGEST_LIE)) {
            return anyNumberRefusal(BAD);
        }
        days.outdate();
        int was = people.lies[number];
        people.tell(number, v);
        return was;
    }

    public int read(int s) {
        if (!isSheet(s)) {
            return BAD;
        }
        Sheet sheet = sheets[s];
        if (sheet.isLost()) {
            return find(NULL);
        }
        days.outdate();
        int many = 0;
        int most = Math.min(NUMBERS, sheet.length);
        while (many < most && isWithin(sheet.item(many), 0, MOST_WEIGHT)) {
            people.weights[many] = sheet.item(many);
            many++;
        }
        return many;
    }

    public int set(int what, int v) {
        if (!rules.isFit(what, v)) {
            return BAD;
        }
        days.outdate();
        return exchange(rules.values, what, v);
    }

    public int pair(int kind, int a, int b, int v) {
        if (!isWithin(kind, 0, 1) || !isNumber(a) || !isNumber(b) || a == b || !isWithin(v, 0, 1)) {
            return BAD;
        }
        days.outdate();
        return rules.tie(kind == 0 ? rules.wont : rules.must, a, b, v);
    }

    // ---- days (people: bits of those there)

    public int boat(int people, int what) {
        if (people == 0 || !areThere(people) || !isWithin(what, 0, 1)) {
            return BAD;
        }
        return what == 0 ? days.costOf(people) : days.fareOf(people);
    }

    public int day(int people, int what) {
        if (!areThere(people) || !isWithin(what, 0, 2)) {
            return BAD;
        }
        days.bringUpToDate();
        if (what == 0) {
            return days.leastOf(people);
        }
        return what == 1 ? days.boatsOf(people) : days.mostOf(people);
    }

    public int with(int person) {
        if (!people.isThere(person)) {
            return BAD;
        }
        days.bringUpToDate();
        return days.boatWith(1 << person);
    }

    public int odd() {
        days.bringUpToDate();
        int odd = NONE;
        int least = NONE;
        for (int person = 0; person < people.number; person++) {
            int others = days.leastOf(people.everyone() & ~(1 << person));
            if (others != NONE && (odd == NONE || others < least)) {
                odd = person;
                least = others;
            }
        }
        return odd;
    }

    public int judged(int s) {
        int refusal = refusalOf(s);
        return refusal != 0 ? refusal : firstJudged(sheets[s]);
    }

    public int costs(int s) {
        int refusal = refusalOf(s);
        if (refusal != 0) {
            return refusal;
        }
        Sheet told = sheets[s];
        if (firstJudged(told) != NONE) {
            return NOT;
        }
        for (int b = 0; b < NUMBERS; b++) {
            boats[b] = crewOf(told, b);
        }
        return costOfBoats();
    }

    // ---- shares

    public long pays(int person, int what) {
        if (!people.isThere(person) || !isWithin(what, 0, 1)) {
            return longRefusal(BAD);
        }
        days.bringUpToDate();
        int boat = days.boatWith(1 << person);
        if (boat == NONE) {
            return longRefusal(NOT);
        }
        return lowestTerms(days.costOf(boat), Integer.bitCount(boat), what);
    }

    public long share(int person, int what) {
        if (!people.isThere(person) || !isWithin(what, 0, 1)) {
            return longRefusal(BAD);
        }
        if (people.number > SHARERS) {
            return longRefusal(FULL);
        }
        days.bringUpToDate();
        // Who can go together can go without some of them too: so if all can, no LEAST is missing.
        if (days.leastOf(people.everyone()) == NONE) {
            return longRefusal(NOT);
        }
        return lowestTerms(days.broughtInAllOrders(person), days.orders(people.number), what);
    }

    public int rather(int s) {
        int refusal = refusalOf(s);
        if (refusal != 0) {
            return refusal;
        }
        days.bringUpToDate();
        if (days.leastOf(people.everyone()) == NONE) {
            return NOT;
        }
        for (int some = 1; some <= people.everyone(); some++) {
            if (paidTogether(sheets[s], some) > days.leastOf(some)) {
                return some;
            }
        }
        return NONE;
    }

    public int lies(int person, int most) {
        if (!people.isThere(person) || !isWithin(most, 0, LONGEST_LIE)) {
            return anyNumberRefusal(BAD);
        }
        days.bringUpToDate();
        if (days.leastOf(people.everyone()) == NONE) {
            return anyNumberRefusal(NOT);
        }
        return days.bestLie(person, most);
    }

    // ---- back, what was seen, days by a seed

    public int back() {
        if (people.number > RETURNERS) {
            return FULL;
        }
        days.bringUpToDate();
        return trip.leastThereAndBack(people.everyone());
    }

    public int seen(int a, int b, int fare) {
        if (!isNumber(a) || !isNumber(b) || a == b || !isWithin(fare, 0, Sightings.HIGHEST_FARE)) {
            return BAD;
        }
        return sightings.add(a, b, fare);
    }

    public int forget() {
        return sightings.drop();
    }

    public int ages(int person, int what) {
        if (!people.isThere(person) || !isWithin(what, 0, 2)) {
            return BAD;
        }
        int many = 0;
        int least = NONE;
        int greatest = NONE;
        for (int age = 0; age <= People.OLDEST; age++) {
            if (sightings.allow(people, person, age)) {
                many++;
                least = least == NONE ? age : least;
                greatest = age;
            }
        }
        if (what == 0) {
            return many;
        }
        return what == 1 ? least : greatest;
    }

    public int lot(int seed) {
        for (int b = 0; b < NUMBERS; b++) {
            boats[b] = 0;
        }
        int placesLeft = people.everyone();
        int state = seed;
        for (int person = 0; person < people.number; person++) {
            state = 1103515245 * state + 12345;
            int place = placeOf(placesLeft, lotOf(state, people.number - person));
            placesLeft &= ~(1 << place);
            int boat = rules.boatOfPlace(place);
            if (boat >= 0 && boat < NUMBERS) {
                boats[boat] |= 1 << person;
            }
        }
        return costOfBoats();
    }

    // ---- sheets

    public int sheet(int s, int form, int n) {
        if (!isSheet(s) || !isForm(form) || n > Sheet.LONGEST) {
            return BAD;
        }
        if (n < 0) {
            return find(LENGTH);
        }
        sheets[s].renew(form, n);
        return n;
    }

    public int lose(int s) {
        if (!isSheet(s)) {
            return BAD;
        }
        if (sheets[s].isLost()) {
            return find(NULL);
        }
        int had = sheets[s].length;
        sheets[s].tearUp();
        return had;
    }

    public int lay(int s, int form, int i, int v) {
        if (!isSheet(s) || !isForm(form)) {
            return BAD;
        }
        int finding = findingAt(sheets[s], form, i);
        if (finding != 0) {
            return find(finding);
        }
        sheets[s].store(i, v);
        return 1;
    }

    public int get(int s, int form, int i) {
        if (!isSheet(s) || !isForm(form)) {
            return LEAST_INT;
        }
        int finding = findingAt(sheets[s], form, i);
        if (finding != 0) {
            latestFinding = finding;
            return LEAST_INT;
        }
        return sheets[s].item(i);
    }

    public int copy(int s, int i, int t, int j, int n) {
        if (!isSheet(s) || !isSheet(t)) {
            return BAD;
        }
        Sheet from = sheets[s];
        Sheet to = sheets[t];
        if (from.isLost() || to.isLost()) {
            return find(NULL);
        }
        if (from.form != to.form) {
            return find(STORE);
        }
        if (!from.hasRange(i, n) || !to.hasRange(j, n)) {
            return find(INDEX);
        }
        System.arraycopy(from.items, i, to.items, j, n);
        return 1;
    }

    public int write(int s) {
        if (!isSheet(s)) {
            return BAD;
        }
        if (sheets[s].isLost()) {
            return find(NULL);
        }
        days.bringUpToDate();
        if (days.leastOf(people.everyone()) == NONE) {
            return NOT;
        }
        writeBoats(sheets[s]);
        return Math.min(sheets[s].length, people.number);
    }

    public int count(int what) {
        switch (what) {
            case 0: return people.number;
            case 1: return people.length;
            case 2: return people.yearsTogether();
            case 3: return people.liars();
            case 4: return rules.pairsOf(rules.wont);
            case 5: return rules.pairsOf(rules.must);
            case 6: return sightings.number;
            case 7: return rules.values[Rules.SIZE];
            case 8: return latestFinding;
            default: return BAD;
        }
    }

    public long digest() {
        long h = 17;
        for (int what = 0; what <= 7; what++) {
            h = 31 * h + count(what);
        }
        h = 31 * h + fault();
        for (int p = 0; p < people.number; p++) {
            h = 31 * h + person(p, 0);
            h = 31 * h + person(p, 1);
            h = 31 * h + with(p);
            h = 31 * h + pays(p, 0);
            h = 31 * h + pays(p, 1);
            h = 31 * h + share(p, 0);
            h = 31 * h + share(p, 1);
            h = 31 * h + lies(p, 3);
            for (int what = 0; what <= 2; what++) {
                h = 31 * h + ages(p, what);
            }
        }
        for (int what = 0; what <= 2; what++) {
            h = 31 * h + day(people.everyone(), what);
        }
        h = 31 * h + odd();
        h = 31 * h + back();
        return 31 * h + lot(7);
    }

    // ---- refusals

    private static boolean isWithin(int v, int least, int most) {
        return v >= least && v <= most;
    }

    private static boolean isNumber(int number) {
        return isWithin(number, 0, NUMBERS - 1);
    }

    private static boolean isSheet(int s) {
        return isWithin(s, 0, SHEETS - 1);
    }

    private static boolean isForm(int form) {
        return isWithin(form, 0, Sheet.INTS);
    }

    private boolean areThere(int some) {
        return (some & ~people.everyone()) == 0;
    }

    private int find(int finding) {
        latestFinding = finding;
        return -10 - finding;
    }

    private static int findingAt(Sheet sheet, int form, int i) {
        if (sheet.isLost()) {
            return NULL;
        }
        if (sheet.form != form) {
            return CAST;
        }
        return sheet.hasItem(i) ? 0 : INDEX;
    }

    /** What a SHEET with an item for each of the PEOPLE is refused with, or 0. */
    private int refusalOf(int s) {
        if (!isSheet(s)) {
            return BAD;
        }
        if (sheets[s].isLost()) {
            return find(NULL);
        }
        return sheets[s].length < people.number ? NOT : 0;
    }

    private static int anyNumberRefusal(int refusal) {
        return -1000 + refusal;
    }

    private static long longRefusal(int refusal) {
        return LEAST_LONG - refusal;
    }

    // ---- parts of the calls above

    private static int exchange(int[] row, int i, int v) {
        if (i < 0 || i >= row.length) {
            return BAD;
        }
        int was = row[i];
        row[i] = v;
        return was;
    }

    private int firstJudged(Sheet told) {
        days.bringUpToDate();
        for (int person = 0; person < people.number; person++) {
            int number = told.item(person);
            if (!isNumber(number) || !days.mayGo(crewOf(told, number), people.everyone())) {
                return person;
            }
        }
        return NONE;
    }

    private int crewOf(Sheet told, int number) {
        int crew = 0;
        for (int person = 0; person < people.number; person++) {
            if (told.item(person) == number) {
                crew |= 1 << person;
            }
        }
        return crew;
    }

    private int costOfBoats() {
        int cost = 0;
        for (int b = 0; b < NUMBERS; b++) {
            cost += days.costOf(boats[b]);
        }
        return cost;
    }

    private long paidTogether(Sheet paid, int some) {
        long together = 0;
        for (int person = 0; person < people.number; person++) {
            if ((some & (1 << person)) != 0) {
                together += paid.item(person);
            }
        }
        return together;
    }

    private static int lotOf(int state, int many) {
        return many > 0 ? (state >>> 16) % many : 0;
    }

    private void writeBoats(Sheet sheet) {
        int left = people.everyone();
        for (int number = 0; number < NUMBERS && left != 0; number++) {
            int boat = days.boatWith(Days.lowestBit(left));
            for (int person = 0; person < people.number; person++) {
                if ((boat & (1 << person)) != 0) {
                    sheet.store(person, number);
                }
            }
            left &= ~boat;
        }
    }

    /** The place that a LOT draws out of those left. */
    private static int placeOf(int placesLeft, int lot) {
        int ahead = 0;
        for (int place = 0; place < NUMBERS; place++) {
            if ((placesLeft & (1 << place)) != 0) {
                if (ahead == lot) {
                    return place;
                }
                ahead++;
            }
        }
        return 0;
    }

    private static long lowestTerms(long above, long below, int what) {
        long divisor = Math.abs(above);
        long rest = below;
        for (int step = 0; step < 100 && rest != 0; step++) {
            long next = divisor % rest;
            divisor = rest;
            rest = next;
        }
        if (divisor == 0) {
            return 0;
        }
        return (what == 0 ? above : below) / divisor;
    }

    /** Those who are told by a text, and what each number has. */
    private static final class People {
        static final int OLDEST = 120;
        private static final int LONGEST = 40;
        private static final int FIGURES = 3;

        final int[] text = new int[LONGEST];
        final int[] ages = new int[NUMBERS];
        final int[] told = new int[NUMBERS];
        final int[] weights = new int[NUMBERS];
        final int[] hours = new int[NUMBERS];
        final int[] lies = new int[NUMBERS];
        int length;
        int number;
        int fault = NONE;

        People() {
            for (int i = 0; i < NUMBERS; i++) {
                weights[i] = 50;
            }
        }

        boolean isTextFull() {
            return length >= LONGEST;
        }

        int append(int b) {
            if (length < LONGEST) {
                text[length] = b;
                length++;
            }
            understand();
            return length;
        }

        int erase() {
            int had = length;
            length = 0;
            understand();
            return had;
        }

        boolean isThere(int person) {
            return person >= 0 && person < number;
        }

        int everyone() {
            return (1 << number) - 1;
        }

        void tell(int i, int lie) {
            if (isNumber(i)) {
                lies[i] = lie;
                told[i] = toldAt(i, ages[i]);
            }
        }

        int toldAt(int i, int age) {
            return isNumber(i) ? Math.max(0, age + lies[i]) : 0;
        }

        int yearsTogether() {
            int years = 0;
            for (int i = 0; i < number; i++) {
                years += ages[i];
            }
            return years;
        }

        int liars() {
            int many = 0;
            for (int i = 0; i < number; i++) {
                if (lies[i] != 0) {
                    many++;
                }
            }
            return many;
        }

        private void understand() {
            fault = NONE;
            int many = 0;
            int at = 0;
            boolean more = length > 0;
            // One round more than there may be AGES, so that an eleventh is seen.
            for (int round = 0; more && round <= NUMBERS; round++) {
                int end = endOfFigures(at);
                int age = ageAt(at, end);
                if (end == at || age > OLDEST || round == NUMBERS) {
                    fault = at;
                    more = false;
                } else {
                    ages[round] = age;
                    many = round + 1;
                    more = end < length;
                    fault = more && text[end] != ';' ? end : NONE;
                    more = more && fault == NONE;
                    at = end + 1;
                }
            }
            number = fault == NONE ? many : 0;
            for (int i = 0; i < number; i++) {
                told[i] = toldAt(i, ages[i]);
            }
        }

        private int endOfFigures(int at) {
            int end = at;
            while (end < length && end < at + FIGURES && text[end] >= '0' && text[end] <= '9') {
                end++;
            }
            return end;
        }

        private int ageAt(int at, int end) {
            int age = 0;
            for (int i = at; i < end && i < LONGEST; i++) {
                age = 10 * age + text[i] - '0';
            }
            return age;
        }
    }

    /** SIZE, LAW, ALONE, WAIT, and the pairs. */
    private static final class Rules {
        static final int SIZE = 0, LAW = 1, ALONE = 2, WAIT = 3;
        private static final int[] LEAST = {1, 0, 0, 0};
        private static final int[] GREATEST = {4, 2, 99, 9};

        final int[] values = new int[4];
        /** Of each number the bits of those with whom it makes a pair. */
        final int[] wont = new int[NUMBERS];
        final int[] must = new int[NUMBERS];

        Rules() {
            values[SIZE] = 2;
        }

        boolean isFit(int what, int v) {
            return what >= 0 && what < values.length && v >= LEAST[what] && v <= GREATEST[what];
        }

        int tie(int[] ties, int a, int b, int v) {
            if (!isNumber(a) || !isNumber(b)) {
                return BAD;
            }
            int was = (ties[a] >> b) & 1;
            ties[a] = (ties[a] & ~(1 << b)) | (v << b);
            ties[b] = (ties[b] & ~(1 << a)) | (v << a);
            return was;
        }

        int mustOf(int i) {
            return isNumber(i) ? must[i] : 0;
        }

        int pairsOf(int[] ties) {
            int ends = 0;
            for (int i = 0; i < NUMBERS; i++) {
                ends += Integer.bitCount(ties[i]);
            }
            return ends / 2;
        }

        int boatOfPlace(int place) {
            int size = values[SIZE];
            return size > 0 ? place / size : NONE;
        }
    }

    /** What boats and DAYS cost. The rows are told by sets of PEOPLE, and made anew when one asks after a change. */
    private static final class Days {
        private static final int SETS = 1 << NUMBERS;
        private static final int NEVER = GREATEST_INT;
        // A DAY is an int: its cost (below 2^14), how many boats (below 2^4), its first boat (below 2^10),
        // from the high bits down, so that the better one of two DAYS is the lesser int.
        private static final int BOATS_SHIFT = 10;
        private static final int COST_SHIFT = 14;
        private static final int[] FACTORIALS = {1, 1, 2, 6, 24, 120, 720};

        private final People people;
        private final Rules rules;
        private final int[] prices = new int[SETS];
        /** All with whom someone of a boat must go. */
        private final int[] needs = new int[SETS];
        private final int[] best = new int[SETS];
        private final int[] most = new int[SETS];
        private boolean outdated = true;

        Days(People people, Rules rules) {
            this.people = people;
            this.rules = rules;
        }

        void outdate() {
            outdated = true;
        }

        void bringUpToDate() {
            if (!outdated) {
                return;
            }
            outdated = false;
            int all = people.everyone();
            for (int boat = 1; boat <= all && boat < SETS; boat++) {
                int least = lowestBit(boat);
                needs[boat] = needs[boat ^ least] | rules.mustOf(Integer.bitCount(least - 1));
                prices[boat] = priceOf(boat);
            }
            for (int set = 1; set <= all && set < SETS; set++) {
                plan(set);
            }
        }

        int fareOf(int boat) {
            if (Integer.bitCount(boat) < 2) {
                return boat == 0 ? 0 : rules.values[Rules.ALONE];
            }
            int eldest = LEAST_INT;
            int youngest = GREATEST_INT;
            int heaviest = LEAST_INT;
            int lightest = GREATEST_INT;
            for (int i = 0; i < NUMBERS; i++) {
                if ((boat & (1 << i)) != 0) {
                    eldest = Math.max(eldest, people.told[i]);
                    youngest = Math.min(youngest, people.told[i]);
                    heaviest = Math.max(heaviest, people.weights[i]);
                    lightest = Math.min(lightest, people.weights[i]);
                }
            }
            int law = rules.values[Rules.LAW];
            return (law == 1 ? 0 : eldest - youngest) + (law == 0 ? 0 : heaviest - lightest);
        }

        int costOf(int boat) {
            int last = 0;
            int hours = 0;
            for (int i = 0; i < NUMBERS; i++) {
                if ((boat & (1 << i)) != 0) {
                    last = Math.max(last, people.hours[i]);
                    hours += people.hours[i];
                }
            }
            int waited = Integer.bitCount(boat) * last - hours;
            return fareOf(boat) + rules.values[Rules.WAIT] * waited;
        }

        /** Whether a boat may go on a DAY of a set. */
        boolean mayGo(int boat, int set) {
            return boat > 0 && boat < SETS && prices[boat] != NONE && (needs[boat] & set & ~boat) == 0;
        }

        /** What a boat that may go COSTS, without counting anew. */
        int priceAt(int boat) {
            return boat >= 0 && boat < SETS ? prices[boat] : NONE;
        }

        int leastOf(int set) {
            int plan = planOf(set);
            return plan == NEVER ? NONE : plan >> COST_SHIFT;
        }

        int boatsOf(int set) {
            int plan = planOf(set);
            return plan == NEVER ? NONE : (plan >> BOATS_SHIFT) & 15;
        }

        int mostOf(int set) {
            return set >= 0 && set < SETS ? most[set] : NONE;
        }

        /** The boat, on the best DAY of all, that one (a bit) goes in. */
        int boatWith(int who) {
            int left = people.everyone();
            for (int step = 0; step < NUMBERS; step++) {
                int boat = firstBoatOf(left);
                if ((boat & who) != 0) {
                    return boat;
                }
                left &= ~boat;
            }
            return NONE;
        }

        boolean anyMust(int set) {
            return set > 0 && set < SETS && (needs[set] & set) != 0;
        }

        int orders(int many) {
            return many >= 0 && many < FACTORIALS.length ? FACTORIALS[many] : 0;
        }

        /** What one brings, summed over all orders. */
        long broughtInAllOrders(int person) {
            long brought = 0;
            int one = 1 << person;
            for (int ahead = 0; ahead <= people.everyone(); ahead++) {
                if ((ahead & one) == 0) {
                    int many = Integer.bitCount(ahead);
                    long ways = (long) orders(many) * orders(people.number - 1 - many);
                    brought += ways * (leastOf(ahead | one) - leastOf(ahead));
                }
            }
            return brought;
        }

        int bestLie(int person, int longest) {
            int was = people.lies[person];
            int bestLie = 0;
            int bestCost = 0;
            int bestCrew = 0;
            // 0, -1, 1, -2, 2 ..: of like ones the first is the one asked for.
            for (int turn = 0; turn <= 2 * longest; turn++) {
                int lie = turn % 2 == 0 ? turn / 2 : -(turn + 1) / 2;
                people.tell(person, lie);
                replanAround(1 << person);
                int boat = boatWith(1 << person);
                int crew = Integer.bitCount(boat);
                int cost = costOf(boat);
                if (turn == 0 || cost * bestCrew < bestCost * crew) {
                    bestLie = lie;
                    bestCost = cost;
                    bestCrew = crew;
                }
            }
            people.tell(person, was);
            replanAround(1 << person);
            return bestLie;
        }

        /** Renews what the best DAY of all asks for, when only one (a bit) has changed what it tells. */
        private void replanAround(int who) {
            int all = people.everyone();
            for (int boat = who; boat <= all && boat < SETS; boat++) {
                if ((boat & who) != 0) {
                    prices[boat] = priceOf(boat);
                }
            }
            // Whoever is least goes first: so the best DAY of all asks for no other set with 0 in it.
            for (int set = who; set <= all && set < SETS; set++) {
                if ((set & who) != 0 && (set == all || (set & 1) == 0)) {
                    plan(set);
                }
            }
        }

        /** What a boat COSTS; NONE if SIZE or WONT keeps it here. */
        private int priceOf(int boat) {
            if (Integer.bitCount(boat) > rules.values[Rules.SIZE]) {
                return NONE;
            }
            for (int i = 0; i < NUMBERS; i++) {
                if ((boat & (1 << i)) != 0 && (rules.wont[i] & boat) != 0) {
                    return NONE;
                }
            }
            return costOf(boat);
        }

        /** The best DAY of a set, and the MOST, out of those of the sets that a first boat leaves. */
        private void plan(int set) {
            if (set <= 0 || set >= SETS) {
                return;
            }
            int least = lowestBit(set);
            int others = set ^ least;
            int parts = 1 << Integer.bitCount(others);
            int found = NEVER;
            int dearest = NONE;
            int part = 0;
            for (int k = 0; k < parts; k++) {
                int boat = least | part;
                int left = set ^ boat;
                if (mayGo(boat, set) && best[left] != NEVER) {
                    int after = best[left] >> BOATS_SHIFT;
                    int cost = prices[boat] << (COST_SHIFT - BOATS_SHIFT);
                    found = Math.min(found, ((after + cost + 1) << BOATS_SHIFT) | boat);
                    dearest = Math.max(dearest, prices[boat] + most[left]);
                }
                part = nextPart(part, others);
            }
            best[set] = found;
            most[set] = dearest;
        }

        static int lowestBit(int set) {
            return set & -set;
        }

        /** The parts of a set, from 0 up, one behind the other. */
        static int nextPart(int part, int set) {
            return (part - set) & set;
        }

        private int planOf(int set) {
            return set >= 0 && set < SETS ? best[set] : NEVER;
        }

        private int firstBoatOf(int set) {
            int plan = planOf(set);
            return plan == NEVER ? 0 : plan & (SETS - 1);
        }
    }

    /** There by one DAY and back by another. */
    private static final class Trip {
        private static final int DEEPEST = 20;

        private final Days days;
        /** Of each one the bits of those with whom it went there. */
        private final int[] met = new int[NUMBERS];
        private int all;
        private int least;

        Trip(Days days) {
            this.days = days;
        }

        int leastThereAndBack(int everyone) {
            // Two who must go together cannot part on the way back.
            if (days.leastOf(everyone) == NONE || days.anyMust(everyone)) {
                return NONE;
            }
            all = everyone;
            least = GREATEST_INT;
            goThere(this, everyone, 0, 0);
            return least == GREATEST_INT ? NONE : least;
        }

        private static void goThere(Trip trip, int left, int paid, int depth) {
            if (depth > DEEPEST) {
                return;
            }
            if (left == 0) {
                comeBack(trip, trip.all, paid, depth + 1);
                return;
            }
            int first = Days.lowestBit(left);
            int others = left ^ first;
            int parts = 1 << Integer.bitCount(others);
            int part = 0;
            for (int k = 0; k < parts; k++) {
                int boat = first | part;
                // The two DAYS can change places: so it is enough to go there by the cheaper one.
                if (trip.days.mayGo(boat, left) && 2 * trip.atLeast(left, boat, paid) < trip.least) {
                    trip.meet(boat);
                    goThere(trip, left ^ boat, paid + trip.days.priceAt(boat), depth + 1);
                }
                part = Days.nextPart(part, others);
            }
        }

        private static void comeBack(Trip trip, int left, int paid, int depth) {
            if (depth > DEEPEST) {
                return;
            }
            if (left == 0) {
                trip.least = Math.min(trip.least, paid);
                return;
            }
            int first = Days.lowestBit(left);
            int others = left ^ first;
            int parts = 1 << Integer.bitCount(others);
            int part = 0;
            for (int k = 0; k < parts; k++) {
                int boat = first | part;
                if (trip.days.mayGo(boat, left) && trip.areNew(boat)
                        && trip.atLeast(left, boat, paid) < trip.least) {
                    comeBack(trip, left ^ boat, paid + trip.days.priceAt(boat), depth + 1);
                }
                part = Days.nextPart(part, others);
            }
        }

        /** What this DAY will have cost at least, when a boat goes next and the others as they like. */
        private int atLeast(int left, int boat, int paid) {
            return paid + days.priceAt(boat) + days.leastOf(left ^ boat);
        }

        private void meet(int boat) {
            for (int i = 0; i < NUMBERS; i++) {
                if ((boat & (1 << i)) != 0) {
                    met[i] = boat & ~(1 << i);
                }
            }
        }

        private boolean areNew(int boat) {
            for (int i = 0; i < NUMBERS; i++) {
                if ((boat & (1 << i)) != 0 && (met[i] & boat) != 0) {
                    return false;
                }
            }
            return true;
        }
    }

    /** What two were seen to pay. */
    private static final class Sightings {
        static final int HIGHEST_FARE = 200;
        private static final int MOST = 8;

        private final int[] ones = new int[MOST];
        private final int[] others = new int[MOST];
        private final int[] fares = new int[MOST];
        int number;

        int add(int a, int b, int fare) {
            if (number >= MOST) {
                return FULL;
            }
            ones[number] = a;
            others[number] = b;
            fares[number] = fare;
            number++;
            return number;
        }

        int drop() {
            int had = number;
            number = 0;
            return had;
        }

        /** Whether all that was SEEN of a person comes out with this AGE. */
        boolean allow(People people, int person, int age) {
            int told = people.toldAt(person, age);
            for (int k = 0; k < number && k < MOST; k++) {
                int other = otherOf(k, person);
                if (people.isThere(other) && Math.abs(told - people.told[other]) != fares[k]) {
                    return false;
                }
            }
            return true;
        }

        private int otherOf(int k, int person) {
            if (ones[k] == person) {
                return others[k];
            }
            return others[k] == person ? ones[k] : NONE;
        }
    }

    /** A row of bytes, shorts or ints, or LOST. */
    private static final class Sheet {
        static final int BYTES = 0, SHORTS = 1, INTS = 2;
        static final int LONGEST = 60;
        private static final int LOST = -1;

        final int[] items = new int[LONGEST];
        int form;
        int length = LOST;

        boolean isLost() {
            return length == LOST;
        }

        void tearUp() {
            length = LOST;
        }

        void renew(int newForm, int n) {
            form = newForm;
            length = Math.min(n, LONGEST);
            for (int i = 0; i < length; i++) {
                items[i] = 0;
            }
        }

        boolean hasItem(int i) {
            return i >= 0 && i < length;
        }

        /** Whether n items from i on are there; by a difference, as a sum could wrap. */
        boolean hasRange(int i, int n) {
            return i >= 0 && n >= 0 && i <= length && n <= length - i;
        }

        int item(int i) {
            return hasItem(i) ? items[i] : 0;
        }

        void store(int i, int v) {
            if (hasItem(i)) {
                items[i] = form == BYTES ? (byte) v : form == SHORTS ? (short) v : v;
            }
        }
    }
}
