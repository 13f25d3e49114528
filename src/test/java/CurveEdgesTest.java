/** The edges of operating curves: promises 20 to 23, each on an office of its own. */
public final class CurveEdgesTest {
    private static final long HALF_OF_60 = 118264581564861424L;
    private static final long BESIDE_HALF_OF_60 = 114449595062769120L;
    private static final long HALF_OF_30 = 155117520L;

    private CurveEdgesTest() {
    }

    public static void main(String[] args) {
        samplesOfSizes2To60();
        samplesOf1ToSize();
        acceptedOfSizes2To60();
        acceptedWithBad0ToSize();
        acceptedBySamplesOf1ToSize();
        acceptedWithMost0To60();
        listedOfSizes2To14();
        listedWithBad0ToSize();
        listedBySamplesOf1ToSize();
        listedWithMost0To60();
        listedIsTheSame();
        twiceOfSizes2To30();
        twiceWithBad0ToSize();
        twiceBySamplesOf1ToHalf();
        twiceWithMost0To60();
        twiceNeverAtOnceBelow2();
        twiceByEachPair();
        lotsAndSettingsDoNotMatter();
        Check.end();
    }

    private static InspectionOffice office() {
        return new InspectionOffice();
    }

    private static String told(int... numbers) {
        StringBuilder all = new StringBuilder();
        for (int number : numbers) {
            all.append(' ').append(number);
        }
        return all.toString();
    }

    private static void dueSamples(int size, int sample, long due) {
        Check.due("samples" + told(size, sample), due, office().samples(size, sample));
    }

    private static void noSamples(int size, int sample) {
        Check.dueIllegalArgument("samples" + told(size, sample),
                () -> office().samples(size, sample));
    }

    private static void dueAccepted(int size, int bad, int sample, int most, long due) {
        Check.due("accepted" + told(size, bad, sample, most), due,
                office().accepted(size, bad, sample, most));
    }

    private static void noAccepted(int size, int bad, int sample, int most) {
        Check.dueIllegalArgument("accepted" + told(size, bad, sample, most),
                () -> office().accepted(size, bad, sample, most));
    }

    private static void dueListed(int size, int bad, int sample, int most, long due) {
        Check.due("acceptedByListing" + told(size, bad, sample, most), due,
                office().acceptedByListing(size, bad, sample, most));
    }

    private static void notListed(int size, int bad, int sample, int most) {
        Check.dueIllegalArgument("acceptedByListing" + told(size, bad, sample, most),
                () -> office().acceptedByListing(size, bad, sample, most));
    }

    private static void dueTwice(int size, int bad, int sample, int most, long due) {
        Check.due("acceptedTwice" + told(size, bad, sample, most), due,
                office().acceptedTwice(size, bad, sample, most));
    }

    private static void notTwice(int size, int bad, int sample, int most) {
        Check.dueIllegalArgument("acceptedTwice" + told(size, bad, sample, most),
                () -> office().acceptedTwice(size, bad, sample, most));
    }

    private static void samplesOfSizes2To60() {
        noSamples(1, 1);
        dueSamples(2, 1, 2);
        dueSamples(3, 1, 3);
        dueSamples(59, 1, 59);
        dueSamples(60, 1, 60);
        noSamples(61, 1);
        noSamples(0, 0);
        noSamples(Integer.MIN_VALUE, 1);
        noSamples(Integer.MAX_VALUE, 1);
    }

    private static void samplesOf1ToSize() {
        noSamples(2, 0);
        dueSamples(2, 2, 1);
        noSamples(2, 3);
        noSamples(60, 0);
        noSamples(60, -1);
        dueSamples(60, 2, 1770);
        dueSamples(60, 29, BESIDE_HALF_OF_60);
        dueSamples(60, 30, HALF_OF_60);
        dueSamples(60, 31, BESIDE_HALF_OF_60);
        dueSamples(60, 58, 1770);
        dueSamples(60, 59, 60);
        dueSamples(60, 60, 1);
        noSamples(60, 61);
        noSamples(60, Integer.MIN_VALUE);
        noSamples(60, Integer.MAX_VALUE);
    }

    private static void acceptedOfSizes2To60() {
        noAccepted(1, 0, 1, 0);
        dueAccepted(2, 1, 1, 0, 1);
        dueAccepted(3, 1, 1, 0, 2);
        dueAccepted(59, 1, 1, 0, 58);
        dueAccepted(60, 1, 1, 0, 59);
        noAccepted(61, 1, 1, 0);
        noAccepted(Integer.MIN_VALUE, 1, 1, 0);
        noAccepted(Integer.MAX_VALUE, 1, 1, 0);
    }

    /** "how many items of the lot are bad, 0 to size". */
    private static void acceptedWithBad0ToSize() {
        noAccepted(10, -1, 4, 1);
        dueAccepted(10, 0, 4, 1, 210);
        dueAccepted(10, 1, 4, 1, 210);
        dueAccepted(10, 2, 4, 1, 182);
        dueAccepted(10, 9, 4, 1, 0);
        dueAccepted(10, 9, 4, 3, 84);
        dueAccepted(10, 10, 4, 3, 0);
        dueAccepted(10, 10, 4, 4, 210);
        noAccepted(10, 11, 4, 1);
        dueAccepted(60, 0, 30, 0, HALF_OF_60);
        dueAccepted(60, 1, 30, 0, HALF_OF_60 / 2);
        dueAccepted(60, 60, 30, 29, 0);
        dueAccepted(60, 60, 30, 30, HALF_OF_60);
        noAccepted(60, 61, 30, 30);
        noAccepted(60, Integer.MIN_VALUE, 30, 30);
        noAccepted(60, Integer.MAX_VALUE, 30, 30);
    }

    private static void acceptedBySamplesOf1ToSize() {
        noAccepted(10, 3, 0, 1);
        dueAccepted(10, 3, 1, 0, 7);
        dueAccepted(10, 3, 1, 1, 10);
        dueAccepted(10, 3, 9, 2, 3);
        dueAccepted(10, 3, 10, 2, 0);
        dueAccepted(10, 3, 10, 3, 1);
        noAccepted(10, 3, 11, 3);
        noAccepted(10, 3, Integer.MIN_VALUE, 3);
        noAccepted(10, 3, Integer.MAX_VALUE, 3);
    }

    /** "0 to 60", whatever size, bad and sample are. */
    private static void acceptedWithMost0To60() {
        noAccepted(10, 3, 4, -1);
        dueAccepted(10, 3, 4, 0, 35);
        dueAccepted(10, 3, 4, 1, 140);
        dueAccepted(10, 3, 4, 2, 203);
        dueAccepted(10, 3, 4, 3, 210);
        dueAccepted(10, 3, 4, 4, 210);
        dueAccepted(10, 3, 4, 5, 210);
        dueAccepted(10, 3, 4, 59, 210);
        dueAccepted(10, 3, 4, 60, 210);
        noAccepted(10, 3, 4, 61);
        noAccepted(10, 3, 4, Integer.MIN_VALUE);
        noAccepted(10, 3, 4, Integer.MAX_VALUE);
        dueAccepted(60, 60, 60, 59, 0);
        dueAccepted(60, 60, 60, 60, 1);
        noAccepted(60, 60, 60, 61);
    }

    private static void listedOfSizes2To14() {
        notListed(1, 0, 1, 0);
        dueListed(2, 1, 1, 0, 1);
        dueListed(3, 1, 1, 0, 2);
        dueListed(13, 1, 1, 0, 12);
        dueListed(14, 1, 1, 0, 13);
        notListed(15, 1, 1, 0);
        notListed(60, 1, 1, 0);
        notListed(Integer.MIN_VALUE, 1, 1, 0);
        notListed(Integer.MAX_VALUE, 1, 1, 0);
    }

    private static void listedWithBad0ToSize() {
        notListed(10, -1, 4, 1);
        dueListed(10, 0, 4, 1, 210);
        dueListed(10, 1, 4, 0, 126);
        dueListed(10, 9, 4, 3, 84);
        dueListed(10, 10, 4, 3, 0);
        dueListed(10, 10, 4, 4, 210);
        notListed(10, 11, 4, 4);
        dueListed(14, 14, 7, 6, 0);
        dueListed(14, 14, 7, 7, 3432);
        notListed(14, 15, 7, 7);
        notListed(14, Integer.MIN_VALUE, 7, 7);
        notListed(14, Integer.MAX_VALUE, 7, 7);
    }

    private static void listedBySamplesOf1ToSize() {
        notListed(14, 3, 0, 1);
        dueListed(14, 3, 1, 0, 11);
        dueListed(14, 3, 13, 2, 3);
        dueListed(14, 3, 14, 2, 0);
        dueListed(14, 3, 14, 3, 1);
        notListed(14, 3, 15, 3);
        notListed(14, 3, Integer.MIN_VALUE, 3);
        notListed(14, 3, Integer.MAX_VALUE, 3);
    }

    private static void listedWithMost0To60() {
        notListed(14, 7, 7, -1);
        dueListed(14, 7, 7, 0, 1);
        dueListed(14, 7, 7, 1, 50);
        dueListed(14, 7, 7, 6, 3431);
        dueListed(14, 7, 7, 7, 3432);
        dueListed(14, 7, 7, 8, 3432);
        dueListed(14, 7, 7, 59, 3432);
        dueListed(14, 7, 7, 60, 3432);
        notListed(14, 7, 7, 61);
        notListed(14, 7, 7, Integer.MIN_VALUE);
        notListed(14, 7, 7, Integer.MAX_VALUE);
    }

    /** "Returns the same". */
    private static void listedIsTheSame() {
        for (int size = 2; size <= 14; size += 3) {
            for (int bad = 0; bad <= size; bad++) {
                InspectionOffice one = office();
                for (int sample = 1; sample <= size; sample++) {
                    for (int most = 0; most <= size; most++) {
                        Check.due("listed" + told(size, bad, sample, most),
                                one.accepted(size, bad, sample, most),
                                one.acceptedByListing(size, bad, sample, most));
                    }
                }
            }
        }
    }

    private static void twiceOfSizes2To30() {
        notTwice(1, 0, 1, 0);
        notTwice(1, 0, 0, 0);
        dueTwice(2, 0, 1, 0, 2);
        dueTwice(3, 0, 1, 0, 6);
        dueTwice(29, 0, 1, 0, 812);
        dueTwice(30, 0, 1, 0, 870);
        notTwice(31, 0, 1, 0);
        notTwice(Integer.MIN_VALUE, 0, 1, 0);
        notTwice(Integer.MAX_VALUE, 0, 1, 0);
    }

    private static void twiceWithBad0ToSize() {
        notTwice(6, -1, 2, 1);
        dueTwice(6, 0, 2, 1, 90);
        dueTwice(6, 1, 2, 1, 90);
        dueTwice(6, 1, 2, 0, 30);
        dueTwice(6, 5, 2, 2, 0);
        dueTwice(6, 5, 2, 3, 60);
        dueTwice(6, 6, 2, 3, 0);
        dueTwice(6, 6, 2, 4, 90);
        notTwice(6, 7, 2, 4);
        dueTwice(30, 30, 15, 16, 0);
        dueTwice(30, 30, 15, 17, HALF_OF_30);
        notTwice(30, 31, 15, 17);
        notTwice(30, Integer.MIN_VALUE, 15, 17);
        notTwice(30, Integer.MAX_VALUE, 15, 17);
    }

    /** "1 to size / 2", rounded down for an odd size. */
    private static void twiceBySamplesOf1ToHalf() {
        notTwice(2, 1, 0, 2);
        dueTwice(2, 1, 1, 2, 2);
        notTwice(2, 1, 2, 2);
        dueTwice(3, 0, 1, 2, 6);
        notTwice(3, 0, 2, 2);
        dueTwice(5, 0, 2, 2, 30);
        notTwice(5, 0, 3, 2);
        dueTwice(29, 0, 14, 60, 1163381400L);
        notTwice(29, 0, 15, 60);
        notTwice(30, 0, 0, 60);
        dueTwice(30, 0, 10, 60, 5550996791340L);
        dueTwice(30, 0, 14, 60, 17450721000L);
        dueTwice(30, 0, 15, 60, HALF_OF_30);
        notTwice(30, 0, 16, 60);
        notTwice(30, 0, Integer.MIN_VALUE, 60);
        notTwice(30, 0, Integer.MAX_VALUE, 60);
    }

    private static void twiceWithMost0To60() {
        notTwice(6, 3, 2, -1);
        dueTwice(6, 3, 2, 0, 0);
        dueTwice(6, 3, 2, 1, 18);
        dueTwice(6, 3, 2, 2, 72);
        dueTwice(6, 3, 2, 3, 90);
        dueTwice(6, 3, 2, 4, 90);
        dueTwice(6, 3, 2, 59, 90);
        dueTwice(6, 3, 2, 60, 90);
        notTwice(6, 3, 2, 61);
        notTwice(6, 3, 2, Integer.MIN_VALUE);
        notTwice(6, 3, 2, Integer.MAX_VALUE);
    }

    /** "(never, if most is below 2)": a first sample without a bad item is enough from 2 on. */
    private static void twiceNeverAtOnceBelow2() {
        dueTwice(4, 2, 2, 0, 0);
        dueTwice(4, 2, 2, 1, 0);
        dueTwice(4, 3, 1, 0, 0);
        dueTwice(4, 3, 1, 1, 6);
        dueTwice(4, 4, 2, 3, 0);
        dueTwice(4, 4, 2, 4, 6);
        dueTwice(6, 3, 3, 2, 1);
        dueTwice(6, 3, 3, 1, 0);
    }

    /** Bits tell which items are in a sample; the lowest ones are bad. */
    private static long pairsListed(int size, int bad, int sample, int most) {
        long pairs = 0;
        int badItems = (1 << bad) - 1;
        for (int first = 0; first < 1 << size; first++) {
            for (int second = 0; second < 1 << size; second++) {
                if ((first & second) != 0 || Integer.bitCount(first) != sample
                        || Integer.bitCount(second) != sample) {
                    continue;
                }
                int inFirst = Integer.bitCount(first & badItems);
                int inBoth = inFirst + Integer.bitCount(second & badItems);
                if (most >= 2 && inFirst <= most - 2 || inBoth <= most) {
                    pairs++;
                }
            }
        }
        return pairs;
    }

    private static void twiceByEachPair() {
        for (int size = 2; size <= 7; size++) {
            for (int bad = 0; bad <= size; bad++) {
                for (int sample = 1; sample <= size / 2; sample++) {
                    for (int most = 0; most <= size + 1; most++) {
                        dueTwice(size, bad, sample, most, pairsListed(size, bad, sample, most));
                    }
                }
            }
        }
    }

    /** The curves ask for nothing but their arguments. */
    private static void lotsAndSettingsDoNotMatter() {
        InspectionOffice office = Row.of("x".repeat(60));
        office.setPlan(2, 3);
        office.setWays(true, true, 5);
        Check.due("samples", 56, office.samples(8, 3));
        Check.due("accepted", 140, office.accepted(10, 3, 4, 1));
        Check.due("acceptedByListing", 140, office.acceptedByListing(10, 3, 4, 1));
        Check.due("acceptedTwice", 3535, office.acceptedTwice(10, 3, 3, 2));
    }
}
