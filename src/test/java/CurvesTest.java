/**
 * Promises 20 to 23: samples, accepted, acceptedByListing, acceptedTwice. Nothing is promised of an
 * office behind its 512th call, so that each call has one of its own.
 */
public final class CurvesTest {
    private static final int[] NO_MOST = {-1, 61, Integer.MIN_VALUE, Integer.MAX_VALUE};

    private CurvesTest() {
    }

    private static InspectionOffice office() {
        return new InspectionOffice();
    }

    public static void main(String[] args) {
        samples();
        samplesRefuses();
        accepted();
        acceptedRefuses();
        acceptedByListing();
        acceptedByListingRefuses();
        acceptedTwice();
        acceptedTwiceRefuses();
        Check.end();
    }

    private static void samples() {
        Check.due("1 of 2", 2, office().samples(2, 1));
        Check.due("2 of 2", 1, office().samples(2, 2));
        Check.due("3 of 8", 56, office().samples(8, 3));
        Check.due("60 of 60", 1, office().samples(60, 60));
        Check.due("30 of 60", 118264581564861424L, office().samples(60, 30));
        for (int size = 2; size <= 60; size++) {
            for (int sample = 1; sample <= size; sample++) {
                Check.due(sample + " of " + size, Model.choices(size, sample).longValueExact(),
                        office().samples(size, sample));
            }
        }
    }

    private static void samplesRefuses() {
        int[][] wrong = {{1, 1}, {61, 1}, {0, 0}, {-2, -3}, {2, 0}, {2, 3}, {60, 61}, {5, -1},
            {Integer.MAX_VALUE, 5}, {Integer.MIN_VALUE, 5}, {5, Integer.MAX_VALUE}};
        for (int[] call : wrong) {
            Check.dueIllegalArgument("samples " + call[0] + " " + call[1],
                    () -> office().samples(call[0], call[1]));
        }
    }

    private static void accepted() {
        Check.due("accepted 10 3 4 1", 140, office().accepted(10, 3, 4, 1));
        Check.due("none bad", 2, office().accepted(2, 0, 1, 0));
        Check.due("all bad", 0, office().accepted(2, 2, 1, 0));
        Check.due("all of all", 1, office().accepted(60, 60, 60, 60));
        Check.due("one too many", 0, office().accepted(60, 60, 60, 59));
        for (int size = 2; size <= 60; size += 1 + size / 12) {
            for (int bad = 0; bad <= size; bad += 1 + size / 12) {
                for (int sample = 1; sample <= size; sample++) {
                    dueAccepted(size, bad, sample);
                }
            }
        }
    }

    private static void dueAccepted(int size, int bad, int sample) {
        for (int most : new int[] {0, 1, 2, sample / 3, sample / 2, sample, 60}) {
            Check.due("accepted " + size + " " + bad + " " + sample + " " + most,
                    Model.accepted(size, bad, sample, most),
                    office().accepted(size, bad, sample, most));
        }
    }

    private static void acceptedRefuses() {
        int[][] wrong = {{1, 0, 1, 0}, {61, 0, 1, 0}, {10, -1, 4, 1}, {10, 11, 4, 1},
            {10, 3, 0, 1}, {10, 3, 11, 1}, {10, 3, -1, 1}, {Integer.MIN_VALUE, 0, 1, 1}};
        for (int[] call : wrong) {
            Check.dueIllegalArgument("accepted " + call[0] + " " + call[1] + " " + call[2],
                    () -> office().accepted(call[0], call[1], call[2], call[3]));
        }
        for (int most : NO_MOST) {
            Check.dueIllegalArgument("accepted most " + most,
                    () -> office().accepted(10, 3, 4, most));
        }
    }

    private static void acceptedByListing() {
        Check.due("listing 10 3 4 1", 140, office().acceptedByListing(10, 3, 4, 1));
        Check.due("listing 14 7 7 3", 1716, office().acceptedByListing(14, 7, 7, 3));
        Check.due("listing 14 14 14 60", 1, office().acceptedByListing(14, 14, 14, 60));
        for (int size = 2; size <= 14; size++) {
            for (int bad = 0; bad <= size; bad++) {
                for (int sample = 1; sample <= size; sample++) {
                    for (int most = 0; most <= size + 1; most++) {
                        Check.due("listing " + size + " " + bad + " " + sample + " " + most,
                                Model.accepted(size, bad, sample, most),
                                office().acceptedByListing(size, bad, sample, most));
                    }
                }
            }
        }
    }

    private static void acceptedByListingRefuses() {
        int[][] wrong = {{1, 0, 1, 0}, {15, 0, 1, 0}, {10, -1, 4, 1}, {10, 11, 4, 1},
            {10, 3, 0, 1}, {10, 3, 11, 1}, {10, 3, -1, 1}, {Integer.MAX_VALUE, 0, 1, 1}};
        for (int[] call : wrong) {
            Check.dueIllegalArgument("listing " + call[0] + " " + call[1] + " " + call[2],
                    () -> office().acceptedByListing(call[0], call[1], call[2], call[3]));
        }
        for (int most : NO_MOST) {
            Check.dueIllegalArgument("listing most " + most,
                    () -> office().acceptedByListing(10, 3, 4, most));
        }
    }

    private static void acceptedTwice() {
        Check.due("twice 10 3 3 2", 3535, office().acceptedTwice(10, 3, 3, 2));
        Check.due("twice 8 1 3 0", 140, office().acceptedTwice(8, 1, 3, 0));
        Check.due("twice 8 2 2 2", 420, office().acceptedTwice(8, 2, 2, 2));
        Check.due("twice 8 8 4 8", 70, office().acceptedTwice(8, 8, 4, 8));
        Check.due("twice 2 1 1 0", 0, office().acceptedTwice(2, 1, 1, 0));
        Check.due("twice 30 0 15 60", 155117520, office().acceptedTwice(30, 0, 15, 60));
        // All six are bad in both, so that only a first sample of at most two would be enough.
        Check.due("twice 6 6 3 4", 0, office().acceptedTwice(6, 6, 3, 4));
        Check.due("twice 6 6 3 5", 20, office().acceptedTwice(6, 6, 3, 5));
        Check.due("twice 6 6 2 3", 0, office().acceptedTwice(6, 6, 2, 3));
        Check.due("twice 6 6 1 1", 0, office().acceptedTwice(6, 6, 1, 1));
        for (int size = 2; size <= 30; size++) {
            for (int bad = 0; bad <= size; bad += 1 + size / 10) {
                for (int sample = 1; sample <= size / 2; sample++) {
                    dueAcceptedTwice(size, bad, sample);
                }
            }
        }
    }

    private static void dueAcceptedTwice(int size, int bad, int sample) {
        for (int most : new int[] {0, 1, 2, 3, 4, 5, sample, sample + 1, 2 * sample, 60}) {
            Check.due("twice " + size + " " + bad + " " + sample + " " + most,
                    Model.acceptedTwice(size, bad, sample, most),
                    office().acceptedTwice(size, bad, sample, most));
        }
    }

    private static void acceptedTwiceRefuses() {
        int[][] wrong = {{1, 0, 1, 0}, {31, 0, 1, 0}, {10, -1, 4, 1}, {10, 11, 4, 1},
            {10, 3, 0, 1}, {10, 3, 6, 1}, {11, 3, 6, 1}, {10, 3, -1, 1},
            {Integer.MAX_VALUE, 0, 1, 1}};
        for (int[] call : wrong) {
            Check.dueIllegalArgument("twice " + call[0] + " " + call[1] + " " + call[2],
                    () -> office().acceptedTwice(call[0], call[1], call[2], call[3]));
        }
        for (int most : NO_MOST) {
            Check.dueIllegalArgument("twice most " + most,
                    () -> office().acceptedTwice(10, 3, 4, most));
        }
    }
}
