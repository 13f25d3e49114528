/** Promises 1 to 4: a new object, setPlan, setWays, toggleMark. */
public final class SettingsTest {
    private static final long FOUR_BAD = 15;

    private SettingsTest() {
    }

    public static void main(String[] args) {
        newObject();
        setPlan();
        setPlanCountsForAllLots();
        setPlanRefuses();
        setWaysCountsForAllLots();
        setWaysRefuses();
        toggleMark();
        toggleMarkRefuses();
        Check.end();
    }

    private static void newObject() {
        InspectionOffice office = new InspectionOffice();
        Check.due("new: lots", 0, office.lots());
        Check.due("new: state", 0, office.state());
        Check.due("new: isSkipping", false, office.isSkipping());
        for (int verdict = 0; verdict <= 3; verdict++) {
            Check.due("new: count " + verdict, 0, office.count(verdict));
        }
        Check.due("new: level 1", 5, office.letter(500));
        Check.due("new: quality 1", 3, office.accepting(500, 0) + office.accepting(501, 0));
        for (int order = 0; order < 20; order++) {
            office.record(order, 5000, 0);
            Check.due("new: not steady", 0, office.state());
            Check.due("new: does not skip", false, office.isSkipping());
            Check.due("new: single plans", 32, office.inspected(order));
        }
    }

    private static void setPlan() {
        InspectionOffice office = new InspectionOffice();
        for (int level = 0; level <= 2; level++) {
            for (int quality = 0; quality <= 3; quality++) {
                office.setPlan(level, quality);
                Check.due("level " + level, 5 + level, office.letter(501));
                int sample = level == 0 ? 20 : level == 1 ? 32 : 50;
                Check.due("sample", sample, office.sample(501, 0));
                Check.due("quality " + quality, sample * (2 * quality + 1) / 40,
                        office.accepting(501, 0));
            }
        }
    }

    private static void setPlanCountsForAllLots() {
        InspectionOffice office = new InspectionOffice();
        office.record(3, 5000, 7L << 20);
        Check.due("three bad of 32, two allowed", 0, office.verdict(3));
        office.setPlan(0, 1);
        Check.due("none bad of the first 20", 1, office.verdict(3));
        Check.due("20 inspected", 20, office.inspected(3));
        office.setPlan(1, 2);
        Check.due("three bad of 32, four allowed", 1, office.verdict(3));
        Check.due("three bad", 3, office.badIn(3));
    }

    private static void setPlanRefuses() {
        InspectionOffice office = new InspectionOffice();
        int[][] wrong = {{-1, 0}, {3, 0}, {0, -1}, {0, 4}, {3, 4},
            {Integer.MIN_VALUE, 0}, {0, Integer.MAX_VALUE}};
        for (int[] plan : wrong) {
            Check.dueIllegalArgument("setPlan " + plan[0] + " " + plan[1],
                    () -> office.setPlan(plan[0], plan[1]));
            Check.due("level stays", 6, office.letter(5000));
            Check.due("quality stays", 2, office.accepting(5000, 0));
        }
    }

    private static void setWaysCountsForAllLots() {
        InspectionOffice office = new InspectionOffice();
        for (int order = 0; order < 12; order++) {
            office.record(order, 5000, 0);
        }
        Check.due("single", 32, office.inspected(0));
        office.setWays(true, false, 0);
        Check.due("double", 22, office.inspected(0));
        Check.due("not steady", 0, office.state());
        office.setWays(false, true, 0);
        Check.due("steady", 2, office.state());
        Check.due("single again", 32, office.inspected(0));
        for (int rate = 2; rate <= 5; rate++) {
            office.setWays(false, false, rate);
            Check.due("rate " + rate, true, office.isSkipping());
            Check.due("skipped by rate " + rate, 4 - 4 / rate, office.count(2));
        }
        office.setWays(false, false, 0);
        Check.due("rate 0", false, office.isSkipping());
        Check.due("none skipped", 0, office.count(2));
    }

    private static void setWaysRefuses() {
        InspectionOffice office = new InspectionOffice();
        for (int order = 0; order < 12; order++) {
            office.record(order, 5000, 0);
        }
        for (int rate : new int[] {-1, 1, 6, -2, Integer.MIN_VALUE, Integer.MAX_VALUE}) {
            Check.dueIllegalArgument("setWays rate " + rate,
                    () -> office.setWays(true, true, rate));
            Check.due("single stays", 32, office.inspected(0));
            Check.due("not steady stays", 0, office.state());
            Check.due("no skipping stays", false, office.isSkipping());
        }
    }

    private static InspectionOffice stoppedByOrder50() {
        InspectionOffice office = new InspectionOffice();
        for (int order = 44; order <= 50; order++) {
            office.record(order, 100, FOUR_BAD);
        }
        Check.due("stopped", 3, office.state());
        return office;
    }

    private static void toggleMark() {
        InspectionOffice office = stoppedByOrder50();
        office.record(199, 100, 0);
        Check.due("held", 3, office.verdict(199));
        Check.due("a mark at 0", true, office.toggleMark(0));
        Check.due("before the stop", 3, office.verdict(199));
        Check.due("a mark at 50", true, office.toggleMark(50));
        Check.due("at the stop", 3, office.verdict(199));
        Check.due("a mark at 51", true, office.toggleMark(51));
        Check.due("behind the stop", 1, office.verdict(199));
        Check.due("no mark at 51", false, office.toggleMark(51));
        Check.due("taken away", 3, office.verdict(199));
        Check.due("a mark at 199", true, office.toggleMark(199));
        Check.due("at the lot", 1, office.verdict(199));
        Check.due("no mark at 199", false, office.toggleMark(199));
        Check.due("no mark at 0", false, office.toggleMark(0));
        Check.due("a mark at 0 again", true, office.toggleMark(0));
    }

    private static void toggleMarkRefuses() {
        InspectionOffice office = stoppedByOrder50();
        for (int order : new int[] {-1, 200, Integer.MIN_VALUE, Integer.MAX_VALUE}) {
            Check.dueIllegalArgument("toggleMark " + order, () -> office.toggleMark(order));
        }
        Check.due("still stopped", 3, office.state());
    }
}
