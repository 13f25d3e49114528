/**
 * An inspection office: lots are judged by samples, inspection switches among normal, tightened,
 * reduced and stopped by what became of the lots before, and may skip lots.
 *
 * <p>Lots may come late and findings may be corrected, so that every change works out anew what
 * became of all lots; the questions only read what was worked out.
 */
public final class InspectionOffice {
    private static final int NORMAL = 0;
    private static final int TIGHTENED = 1;
    private static final int REDUCED = 2;
    private static final int STOPPED = 3;

    private static final int REFUSED = 0;
    private static final int ACCEPTED = 1;
    private static final int SKIPPED = 2;
    private static final int HELD = 3;

    private static final int ORDERS = 200;
    private static final int MOST_LOTS = 60;
    private static final int SMALLEST_LOT = 2;
    private static final int LARGEST_LOT = 5000;
    private static final int FINDING_BITS = 50;
    private static final long MOST_FINDINGS = (1L << FINDING_BITS) - 1;

    private static final int MOST_CURVE = 60;
    private static final int MOST_LISTED = 14;
    private static final int MOST_TWICE = 30;

    private final Lot[] lotByOrder = new Lot[ORDERS];
    private final boolean[] markByOrder = new boolean[ORDERS];
    private final Plans plans = new Plans();
    private final Course course = new Course();
    private int lotCount;

    public InspectionOffice() {
    }

    // ---- settings

    public void setPlan(int level, int quality) throws IllegalArgumentException {
        if (!isWithin(level, 0, 2) || !isWithin(quality, 0, 3)) {
            throw new IllegalArgumentException("level or quality is out of range");
        }
        plans.level = level;
        plans.quality = quality;
        judgeAll();
    }

    public void setWays(boolean twice, boolean steady, int rate) throws IllegalArgumentException {
        if (rate != 0 && !isWithin(rate, 2, 5)) {
            throw new IllegalArgumentException("rate is out of range");
        }
        plans.twice = twice;
        course.steady = steady;
        course.rate = rate;
        judgeAll();
    }

    public boolean toggleMark(int order) throws IllegalArgumentException {
        if (!isOrder(order)) {
            throw new IllegalArgumentException("order is out of range");
        }
        markByOrder[order] = !markByOrder[order];
        judgeAll();
        return markByOrder[order];
    }

    // ---- lots

    public int record(int order, int size, long findings)
            throws IllegalArgumentException, IllegalStateException {
        if (!isOrder(order) || !isLotSize(size) || !isFindings(findings)) {
            throw new IllegalArgumentException("order, size or findings is out of range");
        }
        if (lotByOrder[order] != null || lotCount >= MOST_LOTS) {
            throw new IllegalStateException("the order is taken, or there are 60 lots");
        }
        lotByOrder[order] = new Lot(order, size, findings);
        lotCount++;
        judgeAll();
        return lotCount;
    }

    public long correct(int order, long findings)
            throws IllegalArgumentException, IllegalStateException {
        if (!isFindings(findings)) {
            throw new IllegalArgumentException("findings is out of range");
        }
        Lot lot = findLot(order);
        if (lot == null) {
            throw new IllegalStateException("there is no lot with this order");
        }
        long before = lot.findings;
        lot.findings = findings;
        judgeAll();
        return before;
    }

    public int strike(int order) throws IllegalStateException {
        if (!isOrder(order) || lotByOrder[order] == null) {
            throw new IllegalStateException("there is no lot with this order");
        }
        lotByOrder[order] = null;
        lotCount--;
        judgeAll();
        return lotCount;
    }

    public int lots() {
        return lotCount;
    }

    public int orderAt(int place) throws IndexOutOfBoundsException {
        int lotsBefore = 0;
        for (int order = 0; order < ORDERS; order++) {
            if (lotByOrder[order] != null) {
                if (lotsBefore == place) {
                    return order;
                }
                lotsBefore++;
            }
        }
        throw new IndexOutOfBoundsException("there are not so many lots");
    }

    // ---- verdicts and states

    public int verdict(int order) throws IllegalStateException {
        Lot lot = findLot(order);
        if (lot == null) {
            throw new IllegalStateException("there is no lot with this order");
        }
        return lot.verdict;
    }

    public int stateAt(int order) throws IllegalStateException {
        Lot lot = findLot(order);
        if (lot == null) {
            throw new IllegalStateException("there is no lot with this order");
        }
        return lot.state;
    }

    public int state() {
        return course.state;
    }

    public boolean isSkipping() {
        return course.skipping;
    }

    public int inspected(int order) throws IllegalStateException {
        Lot lot = findLot(order);
        if (lot == null) {
            throw new IllegalStateException("there is no lot with this order");
        }
        return lot.inspected;
    }

    public int badIn(int order) throws IllegalStateException {
        Lot lot = findLot(order);
        if (lot == null) {
            throw new IllegalStateException("there is no lot with this order");
        }
        return lot.bad;
    }

    public int count(int verdict) throws IllegalArgumentException {
        if (!isWithin(verdict, REFUSED, HELD)) {
            throw new IllegalArgumentException("verdict is out of range");
        }
        int found = 0;
        for (Lot lot : lotByOrder) {
            if (lot != null && lot.verdict == verdict) {
                found++;
            }
        }
        return found;
    }

    // ---- plans

    public int letter(int size) throws IllegalArgumentException {
        if (!isLotSize(size)) {
            throw new IllegalArgumentException("size is out of range");
        }
        return plans.letterFor(size);
    }

    public int sample(int size, int state) throws IllegalArgumentException {
        if (!isLotSize(size) || !isWithin(state, NORMAL, REDUCED)) {
            throw new IllegalArgumentException("size or state is out of range");
        }
        return plans.sampleUnder(size, state);
    }

    public int accepting(int size, int state) throws IllegalArgumentException {
        if (!isLotSize(size) || !isWithin(state, NORMAL, REDUCED)) {
            throw new IllegalArgumentException("size or state is out of range");
        }
        return plans.acceptingUnder(size, state);
    }

    // ---- operating curves

    public long samples(int size, int sample) throws IllegalArgumentException {
        if (!isWithin(size, SMALLEST_LOT, MOST_CURVE) || !isWithin(sample, 1, size)) {
            throw new IllegalArgumentException("size or sample is out of range");
        }
        return Curves.choices(size, sample);
    }

    public long accepted(int size, int bad, int sample, int most) throws IllegalArgumentException {
        if (!isWithin(size, SMALLEST_LOT, MOST_CURVE) || !isWithin(bad, 0, size)
                || !isWithin(sample, 1, size) || !isWithin(most, 0, MOST_CURVE)) {
            throw new IllegalArgumentException("size, bad, sample or most is out of range");
        }
        return Curves.withAtMost(size, bad, sample, most);
    }

    public long acceptedByListing(int size, int bad, int sample, int most)
            throws IllegalArgumentException {
        if (!isWithin(size, SMALLEST_LOT, MOST_LISTED) || !isWithin(bad, 0, size)
                || !isWithin(sample, 1, size) || !isWithin(most, 0, MOST_CURVE)) {
            throw new IllegalArgumentException("size, bad, sample or most is out of range");
        }
        return Curves.listedWithAtMost(size, bad, sample, most);
    }

    public long acceptedTwice(int size, int bad, int sample, int most)
            throws IllegalArgumentException {
        if (!isWithin(size, SMALLEST_LOT, MOST_TWICE) || !isWithin(bad, 0, size)
                || !isWithin(sample, 1, size / 2) || !isWithin(most, 0, MOST_CURVE)) {
            throw new IllegalArgumentException("size, bad, sample or most is out of range");
        }
        return Curves.pairsAccepted(size, bad, sample, most);
    }

    // ---- inside

    private static boolean isWithin(int value, int least, int greatest) {
        return value >= least && value <= greatest;
    }

    private static boolean isOrder(int order) {
        return order >= 0 && order < ORDERS;
    }

    private static boolean isLotSize(int size) {
        return isWithin(size, SMALLEST_LOT, LARGEST_LOT);
    }

    private static boolean isFindings(long findings) {
        return findings >= 0 && findings <= MOST_FINDINGS;
    }

    /** Answers null where there is no lot, or no such order at all. */
    private Lot findLot(int order) {
        return isOrder(order) ? lotByOrder[order] : null;
    }

    private void judgeAll() {
        course.restart();
        int lastMark = -1;
        for (int order = 0; order < ORDERS; order++) {
            if (markByOrder[order]) {
                lastMark = order;
            }
            Lot lot = lotByOrder[order];
            if (lot != null) {
                course.pass(lot, lastMark, plans);
            }
        }
    }

    /** What was recorded of a lot, and what became of it when all lots were judged last. */
    private static final class Lot {
        final int order;
        final int size;
        long findings;
        int verdict;
        int state;
        int inspected;
        int bad;

        Lot(int order, int size, long findings) {
            this.order = order;
            this.size = size;
            this.findings = findings;
        }

        /** Takes the first items as the samples; an earlier, smaller sample is among them. */
        void inspectFirst(int items) {
            inspected = items;
            bad = Long.bitCount(findings & ((1L << items) - 1));
        }

        void leaveUninspected(int becomes) {
            inspected = 0;
            bad = 0;
            verdict = becomes;
        }

        void judge(boolean passes) {
            verdict = passes ? ACCEPTED : REFUSED;
        }
    }

    /** The plans by size and level, and how a lot is judged by them. */
    private static final class Plans {
        private static final int[] LARGEST_OF_CLASS = {8, 15, 50, 150, 500};
        private static final int[] SAMPLE_OF_LETTER = {2, 3, 5, 8, 13, 20, 32, 50};
        private static final int LETTERS_LOWER_WHEN_REDUCED = 2;
        private static final int SMALLEST_FOR_TWICE = 5;

        int level = 1;
        int quality = 1;
        boolean twice;

        int letterFor(int size) {
            int letter = level;
            for (int largest : LARGEST_OF_CLASS) {
                if (size > largest) {
                    letter++;
                }
            }
            while (letter > 0 && sampleOf(letter) > size) {
                letter--;
            }
            return letter;
        }

        int sampleUnder(int size, int state) {
            int letter = letterFor(size);
            return sampleOf(state == REDUCED ? letter - LETTERS_LOWER_WHEN_REDUCED : letter);
        }

        int acceptingUnder(int size, int state) {
            int accepting = sampleOf(letterFor(size)) * (2 * quality + 1) / 40;
            return state == NORMAL || accepting == 0 ? accepting : accepting - 1;
        }

        /** Below the letter 0 the letter 0 counts, as the document asks for reduced inspection. */
        private static int sampleOf(int letter) {
            boolean exists = letter >= 0 && letter < SAMPLE_OF_LETTER.length;
            return SAMPLE_OF_LETTER[exists ? letter : 0];
        }

        void inspect(Lot lot, int state) {
            int sample = sampleUnder(lot.size, state);
            int accepting = acceptingUnder(lot.size, state);
            if (twice && state != REDUCED && sample >= SMALLEST_FOR_TWICE) {
                inspectTwice(lot, (sample * 2 + 2) / 3, accepting);
                return;
            }
            lot.inspectFirst(sample);
            lot.judge(lot.bad <= (state == REDUCED ? accepting + 1 : accepting));
        }

        private static void inspectTwice(Lot lot, int first, int accepting) {
            lot.inspectFirst(first);
            // accepting - 2 may be below 0, and then no lot has so few bad items, as it should be.
            boolean passesAtOnce = lot.bad <= accepting - 2;
            if (!passesAtOnce && lot.bad <= accepting) {
                int reached = Math.min(2 * first, Math.min(lot.size, FINDING_BITS));
                lot.inspectFirst(reached);
            }
            lot.judge(passesAtOnce || lot.bad <= accepting);
        }
    }

    /** The lots inspected since the present inspection began. */
    private static final class History {
        private final boolean[] refused = new boolean[MOST_LOTS];
        private final int[] bad = new int[MOST_LOTS];
        private int length;

        void clear() {
            length = 0;
        }

        void add(Lot lot) {
            if (length < 0 || length >= MOST_LOTS) {
                return;
            }
            refused[length] = lot.verdict == REFUSED;
            bad[length] = lot.bad;
            length++;
        }

        int refusedInLast(int window) {
            int found = 0;
            int from = length > window ? length - window : 0;
            for (int at = from; at >= 0 && at < length && at < MOST_LOTS; at++) {
                if (refused[at]) {
                    found++;
                }
            }
            return found;
        }

        int badInLast(int window) {
            int found = 0;
            int from = length > window ? length - window : 0;
            for (int at = from; at >= 0 && at < length && at < MOST_LOTS; at++) {
                found += bad[at];
            }
            return found;
        }

        boolean lastWereAccepted(int window) {
            return length >= window && refusedInLast(window) == 0;
        }
    }

    /** Inspection on its way from lot to lot: its state, and whether it skips. */
    private static final class Course {
        private static final int NORMAL_WINDOW = 5;
        private static final int REFUSED_TO_TIGHTEN = 2;
        private static final int ACCEPTED_TO_REDUCE = 10;
        private static final int MOST_BAD_TO_REDUCE = 4;
        private static final int ACCEPTED_TO_RELAX = 5;
        private static final int REFUSED_TO_STOP = 5;
        private static final int ACCEPTED_TO_SKIP = 8;

        boolean steady;
        int rate;
        int state;
        boolean skipping;
        private final History history = new History();
        private int changedAt;
        private int acceptedInRow;
        private int passedInGroup;

        void restart() {
            begin(NORMAL);
            skipping = false;
            acceptedInRow = 0;
        }

        /** The last mark is the highest order with a mark up to that of the lot, -1 for none. */
        void pass(Lot lot, int lastMark, Plans plans) {
            if (state == STOPPED && lastMark > changedAt) {
                begin(TIGHTENED);
            }
            lot.state = state;
            if (state == STOPPED) {
                lot.leaveUninspected(HELD);
            } else if (isPassedOver()) {
                lot.leaveUninspected(SKIPPED);
            } else {
                plans.inspect(lot, state);
                history.add(lot);
                int next = nextBehind(lot, plans);
                if (next != state) {
                    begin(next);
                    changedAt = lot.order;
                }
                countForSkipping(lot);
            }
        }

        private void begin(int next) {
            state = next;
            history.clear();
        }

        private int nextBehind(Lot lot, Plans plans) {
            if (state == NORMAL) {
                return behindNormal();
            }
            if (state == TIGHTENED) {
                return behindTightened();
            }
            // Above the accepting number is the lot that ends reduced though accepted, and,
            // further above, each refused one.
            boolean ends = lot.bad > plans.acceptingUnder(lot.size, REDUCED);
            return ends ? NORMAL : REDUCED;
        }

        private int behindNormal() {
            if (history.refusedInLast(NORMAL_WINDOW) >= REFUSED_TO_TIGHTEN) {
                return TIGHTENED;
            }
            boolean good = history.lastWereAccepted(ACCEPTED_TO_REDUCE)
                    && history.badInLast(ACCEPTED_TO_REDUCE) <= MOST_BAD_TO_REDUCE;
            return good && steady ? REDUCED : NORMAL;
        }

        private int behindTightened() {
            if (history.lastWereAccepted(ACCEPTED_TO_RELAX)) {
                return NORMAL;
            }
            return history.refusedInLast(MOST_LOTS) >= REFUSED_TO_STOP ? STOPPED : TIGHTENED;
        }

        private boolean isPassedOver() {
            if (!skipping) {
                return false;
            }
            passedInGroup++;
            if (passedInGroup < rate) {
                return true;
            }
            passedInGroup = 0;
            return false;
        }

        private void countForSkipping(Lot lot) {
            if (lot.verdict == REFUSED || lot.state == TIGHTENED || state == TIGHTENED) {
                skipping = false;
                acceptedInRow = 0;
                return;
            }
            acceptedInRow++;
            if (!skipping && rate > 0 && acceptedInRow >= ACCEPTED_TO_SKIP) {
                skipping = true;
                passedInGroup = 0;
            }
        }
    }

    /** Exact counts of samples out of a lot of which some items are bad. */
    private static final class Curves {
        static long choices(int items, int taken) {
            if (taken < 0 || taken > items) {
                return 0;
            }
            long ways = 1;
            for (int step = 1; step <= taken; step++) {
                // Behind each step this is a number of choices itself, so nothing is left over.
                ways = ways * (items - taken + step) / step;
            }
            return ways;
        }

        private static long withExactly(int size, int bad, int sample, int found) {
            return choices(bad, found) * choices(size - bad, sample - found);
        }

        static long withAtMost(int size, int bad, int sample, int most) {
            long ways = 0;
            for (int found = 0; found <= most && found <= sample; found++) {
                ways += withExactly(size, bad, sample, found);
            }
            return ways;
        }

        /** The bits of a number tell which items are in a sample; the lowest ones are bad. */
        static long listedWithAtMost(int size, int bad, int sample, int most) {
            int badItems = (1 << bad) - 1;
            int end = 1 << size;
            int items = (1 << sample) - 1;
            long ways = 0;
            for (int listed = 0; listed < end && items < end; listed++) {
                if (Integer.bitCount(items & badItems) <= most) {
                    ways++;
                }
                items = nextWithAsManyBits(items);
            }
            return ways;
        }

        /** Moves up the lowest bit that can move, and puts all bits below it back to the bottom. */
        private static int nextWithAsManyBits(int bits) {
            int lowest = bits & -bits;
            if (lowest <= 0) {
                return Integer.MAX_VALUE;
            }
            int moved = bits + lowest;
            return moved | ((moved ^ bits) >>> 2) / lowest;
        }

        static long pairsAccepted(int size, int bad, int sample, int most) {
            int left = size - sample;
            long pairs = 0;
            for (int found = 0; found <= sample; found++) {
                long seconds = found <= most - 2
                        ? choices(left, sample)
                        : withAtMost(left, bad - found, sample, most - found);
                pairs += withExactly(size, bad, sample, found) * seconds;
            }
            return pairs;
        }
    }
}
