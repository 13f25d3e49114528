/** Promises 17 to 19: letter, sample, accepting. */
public final class PlansTest {
    private static final int[] NO_SIZES = {1, 0, -1, 5001, Integer.MIN_VALUE, Integer.MAX_VALUE};
    private static final int[] NO_STATES = {-1, 3, 4, Integer.MIN_VALUE, Integer.MAX_VALUE};

    private PlansTest() {
    }

    public static void main(String[] args) {
        letter();
        letterForSmallLots();
        sample();
        accepting();
        refused();
        singlePlansStandBehindDoubleOnes();
        Check.end();
    }

    private static void dueLetters(int level, int[][] sizesAndLetters) {
        InspectionOffice office = new InspectionOffice();
        office.setPlan(level, 1);
        for (int[] due : sizesAndLetters) {
            Check.due("level " + level + " letter " + due[0], due[1], office.letter(due[0]));
        }
    }

    private static void letter() {
        dueLetters(0, new int[][] {{2, 0}, {8, 0}, {9, 1}, {15, 1}, {16, 2}, {50, 2}, {51, 3},
            {150, 3}, {151, 4}, {500, 4}, {501, 5}, {5000, 5}});
        dueLetters(1, new int[][] {{8, 1}, {9, 2}, {15, 2}, {16, 3}, {50, 3}, {51, 4},
            {150, 4}, {151, 5}, {500, 5}, {501, 6}, {5000, 6}});
        dueLetters(2, new int[][] {{8, 2}, {9, 3}, {15, 3}, {20, 4}, {50, 4}, {51, 5},
            {150, 5}, {151, 6}, {500, 6}, {501, 7}, {5000, 7}});
    }

    private static void letterForSmallLots() {
        dueLetters(1, new int[][] {{2, 0}, {3, 1}, {4, 1}});
        dueLetters(2, new int[][] {{2, 0}, {3, 1}, {4, 1}, {5, 2}, {12, 3}, {13, 3}, {16, 4}});
        InspectionOffice office = new InspectionOffice();
        office.setPlan(2, 1);
        for (int size = 2; size <= 100; size++) {
            Check.due("no more than " + size, true, office.sample(size, 0) <= size);
        }
    }

    private static void dueSamples(InspectionOffice office, int size, int full, int reduced) {
        Check.due("normal " + size, full, office.sample(size, 0));
        Check.due("tightened " + size, full, office.sample(size, 1));
        Check.due("reduced " + size, reduced, office.sample(size, 2));
    }

    private static void sample() {
        InspectionOffice office = new InspectionOffice();
        dueSamples(office, 2, 2, 2);
        dueSamples(office, 8, 3, 2);
        dueSamples(office, 15, 5, 2);
        dueSamples(office, 50, 8, 3);
        dueSamples(office, 150, 13, 5);
        dueSamples(office, 500, 20, 8);
        dueSamples(office, 5000, 32, 13);
        office.setPlan(2, 1);
        dueSamples(office, 501, 50, 20);
        dueSamples(office, 4, 3, 2);
    }

    private static void dueAccepting(InspectionOffice office, int size, int normal, int less) {
        Check.due("normal accepts " + size, normal, office.accepting(size, 0));
        Check.due("tightened accepts " + size, less, office.accepting(size, 1));
        Check.due("reduced accepts " + size, less, office.accepting(size, 2));
    }

    private static void accepting() {
        InspectionOffice office = new InspectionOffice();
        dueAccepting(office, 2, 0, 0);
        dueAccepting(office, 150, 0, 0);
        dueAccepting(office, 151, 1, 0);
        dueAccepting(office, 501, 2, 1);
        office.setPlan(2, 0);
        dueAccepting(office, 5000, 1, 0);
        office.setPlan(2, 2);
        dueAccepting(office, 5000, 6, 5);
        office.setPlan(2, 3);
        dueAccepting(office, 5000, 8, 7);
        dueAccepting(office, 20, 2, 1);
        dueAccepting(office, 5, 0, 0);
        office.setPlan(1, 3);
        dueAccepting(office, 50, 1, 0);
    }

    private static void refused() {
        InspectionOffice office = new InspectionOffice();
        for (int size : NO_SIZES) {
            Check.dueIllegalArgument("letter " + size, () -> office.letter(size));
            Check.dueIllegalArgument("sample " + size, () -> office.sample(size, 0));
            Check.dueIllegalArgument("accepting " + size, () -> office.accepting(size, 0));
        }
        for (int state : NO_STATES) {
            Check.dueIllegalArgument("sample under " + state, () -> office.sample(60, state));
            Check.dueIllegalArgument("accepting under " + state, () -> office.accepting(60, state));
        }
    }

    private static void singlePlansStandBehindDoubleOnes() {
        InspectionOffice office = new InspectionOffice();
        office.setWays(true, false, 0);
        dueSamples(office, 5000, 32, 13);
        dueAccepting(office, 5000, 2, 1);
    }
}
