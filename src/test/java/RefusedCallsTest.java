import java.util.ArrayList;
import java.util.List;

/**
 * Each call refused for each of its reasons, on offices without lots, with some and with 60: it
 * throws what the document names, and behind it every answer is as on an office that was not asked.
 */
public final class RefusedCallsTest {
    /** There is no lot with this order in any of the offices. */
    private static final int FREE = 1;
    /** There is a lot with this order in each office that has lots. */
    private static final int TAKEN = 3;
    private static final long TOO_GREAT = 1L << 50;
    private static final long[] NO_FINDINGS = {-1, TOO_GREAT, Long.MIN_VALUE, Long.MAX_VALUE};

    private static final Class<IllegalArgumentException> ARGUMENT = IllegalArgumentException.class;
    private static final Class<IllegalStateException> STATE = IllegalStateException.class;
    private static final Class<IndexOutOfBoundsException> BOUNDS = IndexOutOfBoundsException.class;

    private final List<Refused> refused = new ArrayList<>();

    private RefusedCallsTest() {
    }

    private interface Call {
        void on(InspectionOffice office);
    }

    /** What may be seen of an office, within the calls that are left to it. */
    private interface View {
        List<Long> of(InspectionOffice office);
    }

    private interface Maker {
        InspectionOffice make();
    }

    private record Refused(String told, Class<? extends RuntimeException> due, Call call) {
    }

    public static void main(String[] args) {
        check("without lots", RefusedCallsTest::withoutLots);
        check("with one lot", RefusedCallsTest::withOneLot);
        check("stopped", RefusedCallsTest::stopped);
        check("skipping", RefusedCallsTest::skipping);
        check("with 59 lots", () -> withManyLots(59));
        check("with 60 lots", () -> withManyLots(60));
        Check.end();
    }

    private static InspectionOffice withoutLots() {
        InspectionOffice office = new InspectionOffice();
        office.toggleMark(7);
        return office;
    }

    private static InspectionOffice withOneLot() {
        InspectionOffice office = new InspectionOffice();
        office.setPlan(2, 3);
        office.setWays(true, true, 5);
        office.record(TAKEN, 5000, 255);
        return office;
    }

    private static InspectionOffice stopped() {
        InspectionOffice office = new InspectionOffice();
        office.toggleMark(20);
        for (int order = 3; order <= 12; order++) {
            office.record(order, 100, 1);
        }
        return office;
    }

    private static InspectionOffice skipping() {
        InspectionOffice office = new InspectionOffice();
        office.setPlan(0, 2);
        office.setWays(false, true, 3);
        for (int order = 3; order <= 31; order += 2) {
            office.record(order, 600, order == 31 ? 1 : 0);
        }
        return office;
    }

    private static InspectionOffice withManyLots(int many) {
        InspectionOffice office = new InspectionOffice();
        office.setPlan(2, 2);
        office.setWays(true, true, 2);
        office.toggleMark(150);
        for (int lot = 0; lot < many; lot++) {
            office.record(2 * lot + 3, 40 * lot + 2, lot % 7 < 3 ? 0 : 1L << lot % 40);
        }
        return office;
    }

    private static void check(String what, Maker maker) {
        RefusedCallsTest test = new RefusedCallsTest();
        test.refuseAll(maker.make().lots());
        for (View view : List.<View>of(RefusedCallsTest::answers, RefusedCallsTest::findings,
                RefusedCallsTest::marks, RefusedCallsTest::answersBehindMoreLots)) {
            List<Long> before = view.of(maker.make());
            for (Refused one : test.refused) {
                InspectionOffice office = maker.make();
                Check.dueThrow(what + ": " + one.told, one.due, () -> one.call.on(office));
                Check.due(what + ": nothing has changed behind " + one.told, true,
                        before.equals(view.of(office)));
            }
        }
    }

    private void add(String told, Class<? extends RuntimeException> due, Call call) {
        refused.add(new Refused(told, due, call));
    }

    /** The nearest numbers out of a range, and the ends of all numbers. */
    private static int[] outOf(int least, int most) {
        return new int[] {least - 1, most + 1, Integer.MIN_VALUE, Integer.MAX_VALUE};
    }

    private void refuseAll(int lots) {
        settings();
        recordWithWrongArguments(FREE);
        correctAndStrike();
        placesAndVerdicts(lots);
        plans();
        samples();
        curves();
        if (lots > 0) {
            recordWithWrongArguments(TAKEN);
            add("record taken", STATE, office -> office.record(TAKEN, 9, 1));
            correctWithWrongFindings(TAKEN);
        }
        if (lots == 60) {
            add("record the 61st", STATE, office -> office.record(FREE, 9, 1));
            add("record the 61st at 0", STATE, office -> office.record(0, 2, 0));
            add("record the 61st at 199", STATE, office -> office.record(199, 5000, 1));
        }
    }

    private void settings() {
        for (int level : outOf(0, 2)) {
            for (int quality : new int[] {-1, 0, 3, 4}) {
                add("setPlan " + level + " " + quality, ARGUMENT,
                        office -> office.setPlan(level, quality));
            }
        }
        for (int quality : outOf(0, 3)) {
            for (int level = 0; level <= 2; level++) {
                int within = level;
                add("setPlan " + level + " " + quality, ARGUMENT,
                        office -> office.setPlan(within, quality));
            }
        }
        for (int rate : new int[] {-1, 1, 6, -2, Integer.MIN_VALUE, Integer.MAX_VALUE}) {
            for (boolean twice : new boolean[] {false, true}) {
                add("setWays steady " + twice + " " + rate, ARGUMENT,
                        office -> office.setWays(twice, true, rate));
                add("setWays not steady " + twice + " " + rate, ARGUMENT,
                        office -> office.setWays(twice, false, rate));
            }
        }
        for (int order : outOf(0, 199)) {
            add("toggleMark " + order, ARGUMENT, office -> office.toggleMark(order));
        }
    }

    private void recordWithWrongArguments(int order) {
        for (int size : outOf(2, 5000)) {
            add("record size " + size, ARGUMENT, office -> office.record(order, size, 1));
        }
        for (long findings : NO_FINDINGS) {
            add("record findings " + findings, ARGUMENT,
                    office -> office.record(order, 100, findings));
        }
        for (int none : outOf(0, 199)) {
            add("record order " + none, ARGUMENT, office -> office.record(none, 100, 1));
            add("record all wrong " + none, ARGUMENT, office -> office.record(none, 1, -1));
        }
    }

    private void correctWithWrongFindings(int order) {
        for (long findings : NO_FINDINGS) {
            add("correct " + order + " to " + findings, ARGUMENT,
                    office -> office.correct(order, findings));
        }
    }

    private void correctAndStrike() {
        correctWithWrongFindings(FREE);
        correctWithWrongFindings(-1);
        add("correct none", STATE, office -> office.correct(FREE, 1));
        add("strike none", STATE, office -> office.strike(FREE));
        for (int order : outOf(0, 199)) {
            add("correct " + order, STATE, office -> office.correct(order, 1));
            add("strike " + order, STATE, office -> office.strike(order));
        }
    }

    private void placesAndVerdicts(int lots) {
        for (int place : new int[] {lots, lots + 1, -1, Integer.MIN_VALUE, Integer.MAX_VALUE}) {
            add("orderAt " + place, BOUNDS, office -> office.orderAt(place));
        }
        for (int order : new int[] {FREE, 0, 199, -1, 200, Integer.MIN_VALUE, Integer.MAX_VALUE}) {
            add("verdict " + order, STATE, office -> office.verdict(order));
            add("stateAt " + order, STATE, office -> office.stateAt(order));
            add("inspected " + order, STATE, office -> office.inspected(order));
            add("badIn " + order, STATE, office -> office.badIn(order));
        }
        for (int verdict : outOf(0, 3)) {
            add("count " + verdict, ARGUMENT, office -> office.count(verdict));
        }
    }

    private void plans() {
        for (int size : outOf(2, 5000)) {
            add("letter " + size, ARGUMENT, office -> office.letter(size));
            for (int state : new int[] {-1, 0, 2, 3}) {
                add("sample size " + size, ARGUMENT, office -> office.sample(size, state));
                add("accepting size " + size, ARGUMENT, office -> office.accepting(size, state));
            }
        }
        for (int state : outOf(0, 2)) {
            for (int size : new int[] {2, 5000}) {
                add("sample state " + state, ARGUMENT, office -> office.sample(size, state));
                add("accepting state " + state, ARGUMENT,
                        office -> office.accepting(size, state));
            }
        }
    }

    private void samples() {
        for (int size : outOf(2, 60)) {
            add("samples size " + size, ARGUMENT, office -> office.samples(size, 1));
        }
        for (int size : new int[] {2, 60}) {
            for (int sample : outOf(1, size)) {
                add("samples sample " + sample, ARGUMENT, office -> office.samples(size, sample));
            }
        }
    }

    private interface Curve {
        long of(InspectionOffice office, int size, int bad, int sample, int most);
    }

    private void curves() {
        curve("accepted", 60, 60, InspectionOffice::accepted);
        curve("acceptedByListing", 14, 14, InspectionOffice::acceptedByListing);
        curve("acceptedTwice", 30, 15, InspectionOffice::acceptedTwice);
        for (int size : new int[] {2, 3}) {
            add("acceptedTwice half of " + size, ARGUMENT,
                    office -> office.acceptedTwice(size, 1, 2, 1));
        }
    }

    private void curve(String name, int most, int mostSample, Curve curve) {
        for (int wrong : outOf(2, most)) {
            add(name + " size " + wrong, ARGUMENT, office -> curve.of(office, wrong, 0, 1, 1));
        }
        for (int wrong : outOf(0, most)) {
            add(name + " bad " + wrong, ARGUMENT, office -> curve.of(office, most, wrong, 1, 1));
        }
        for (int wrong : outOf(1, mostSample)) {
            add(name + " sample " + wrong, ARGUMENT, office -> curve.of(office, most, 0, wrong, 1));
        }
        for (int wrong : outOf(0, 60)) {
            add(name + " most " + wrong, ARGUMENT, office -> curve.of(office, most, 0, 1, wrong));
        }
    }

    private static List<Long> answers(InspectionOffice office) {
        List<Long> answers = new ArrayList<>();
        answers.add((long) office.lots());
        answers.add((long) office.state());
        answers.add(office.isSkipping() ? 1L : 0L);
        for (int verdict = 0; verdict <= 3; verdict++) {
            answers.add((long) office.count(verdict));
        }
        for (int place = 0; place < office.lots(); place++) {
            int order = office.orderAt(place);
            answers.add((long) order);
            answers.add((long) office.verdict(order));
            answers.add((long) office.stateAt(order));
            answers.add((long) office.inspected(order));
            answers.add((long) office.badIn(order));
        }
        for (int state = 0; state <= 2; state++) {
            answers.add((long) office.letter(5000));
            answers.add((long) office.sample(5000, state));
            answers.add((long) office.accepting(5000, state));
        }
        return answers;
    }

    private static List<Long> findings(InspectionOffice office) {
        List<Long> answers = new ArrayList<>();
        for (int place = 0; place < office.lots(); place++) {
            answers.add(office.correct(office.orderAt(place), 0));
        }
        return answers;
    }

    private static List<Long> marks(InspectionOffice office) {
        List<Long> answers = new ArrayList<>();
        for (int order = 0; order < 200; order++) {
            answers.add(office.toggleMark(order) ? 1L : 0L);
        }
        return answers;
    }

    /** More lots show what the office is set to, and work out anew what became of all. */
    private static List<Long> answersBehindMoreLots(InspectionOffice office) {
        while (office.lots() > 44) {
            office.strike(office.orderAt(0));
        }
        for (int order = 184; order < 200; order++) {
            office.record(order, 5000, order % 5 == 0 ? 1 : 0);
        }
        return answers(office);
    }
}
