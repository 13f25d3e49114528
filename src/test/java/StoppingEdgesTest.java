/** The edges of stopping and of the marks to resume: promises 4 and 10 to 15 by them. */
public final class StoppingEdgesTest {
    /** The order of the lot with which inspection stops, the last one of seven. */
    private static final int STOP = 100;

    private StoppingEdgesTest() {
    }

    public static void main(String[] args) {
        heldWithoutAMark();
        aMarkAtItsOrder();
        aMarkBeforeIt();
        behindTheLotWithWhichItStopped();
        theLotsBetweenAreHeld();
        theLotThatResumesCounts();
        aMarkIsNotAnsweredTwice();
        aMarkBehindTheSecondStop();
        theLowestAndTheHighestStop();
        marksOnlyResume();
        aMarkTakenAway();
        theStopMoves();
        resumedByTheTightenedPlan();
        Check.end();
    }

    private static InspectionOffice stopped() {
        InspectionOffice office = new InspectionOffice();
        for (int order = STOP - 6; order <= STOP; order++) {
            office.record(order, 100, Row.ALL);
        }
        Check.due("stopped", 3, office.state());
        return office;
    }

    private static InspectionOffice stoppedAndThen(int... orders) {
        InspectionOffice office = stopped();
        for (int order : orders) {
            office.record(order, 100, 0);
        }
        return office;
    }

    private static void dueHeld(String what, InspectionOffice office, int order) {
        Row.dueLot(what, office, order, 3, 0, 0);
        Check.due(what + ": stateAt " + order, 3, office.stateAt(order));
    }

    private static void dueInspected(String what, InspectionOffice office, int order) {
        Row.dueLot(what, office, order, 1, 13, 0);
        Check.due(what + ": stateAt " + order, 1, office.stateAt(order));
    }

    /** "When inspection is stopped, all lots are held". */
    private static void heldWithoutAMark() {
        InspectionOffice office = stoppedAndThen(101, 102, 199);
        for (int order : new int[] {101, 102, 199}) {
            dueHeld("no mark", office, order);
            office.correct(order, Row.ALL);
            dueHeld("no mark, all bad", office, order);
        }
        Check.due("held", 3, office.count(3));
        Check.due("the last before is inspected", 0, office.verdict(STOP));
        Check.due("under tightened", 1, office.stateAt(STOP));
    }

    /** "a mark to resume is at its order". */
    private static void aMarkAtItsOrder() {
        for (int order : new int[] {101, 150, 199}) {
            InspectionOffice office = stoppedAndThen(order);
            office.toggleMark(order);
            dueInspected("a mark at its order", office, order);
        }
        InspectionOffice office = stoppedAndThen(150);
        office.toggleMark(151);
        dueHeld("a mark one behind", office, 150);
        Check.due("still stopped", 3, office.state());
    }

    /** "or before it". */
    private static void aMarkBeforeIt() {
        for (int mark : new int[] {101, 102, 149}) {
            InspectionOffice office = stoppedAndThen(150);
            office.toggleMark(mark);
            dueInspected("a mark before it", office, 150);
            Check.due("tightened", 1, office.state());
        }
    }

    /** "but behind the order of the lot with which inspection stopped". */
    private static void behindTheLotWithWhichItStopped() {
        for (int mark : new int[] {0, 93, STOP - 6, STOP - 1, STOP}) {
            InspectionOffice office = stoppedAndThen(101, 150);
            office.toggleMark(mark);
            dueHeld("a mark at " + mark, office, 101);
            dueHeld("a mark at " + mark, office, 150);
        }
        InspectionOffice office = stoppedAndThen(101, 150);
        office.toggleMark(STOP + 1);
        dueInspected("a mark one behind the stop", office, 101);
        dueInspected("a mark one behind the stop", office, 150);
    }

    /** "until there is a lot so that a mark to resume is at its order or before it". */
    private static void theLotsBetweenAreHeld() {
        InspectionOffice office = stoppedAndThen(101, 110, 120);
        office.toggleMark(111);
        dueHeld("before the mark", office, 101);
        dueHeld("one before the mark", office, 110);
        dueInspected("behind the mark", office, 120);
        office.toggleMark(110);
        dueHeld("before the marks", office, 101);
        dueInspected("at the first mark", office, 110);
        dueInspected("behind both marks", office, 120);
        office.record(105, 100, 0);
        dueHeld("a late one before the marks", office, 105);
        office.record(115, 100, 0);
        dueInspected("a late one behind the mark", office, 115);
        InspectionOffice unmarked = stoppedAndThen(101);
        unmarked.toggleMark(102);
        dueHeld("the mark has no lot", unmarked, 101);
        Check.due("still stopped", 3, unmarked.state());
        unmarked.record(102, 100, 0);
        Check.due("it has one", 1, unmarked.state());
    }

    /** "with that lot tightened inspection begins anew": with 4 lots behind it there are 5. */
    private static void theLotThatResumesCounts() {
        InspectionOffice good = stoppedAndThen(101, 102, 103, 104);
        good.toggleMark(101);
        Check.due("4 accepted", 1, good.state());
        good.record(105, 100, 0);
        Check.due("5 accepted", 0, good.state());
        InspectionOffice bad = stoppedAndThen();
        bad.toggleMark(101);
        for (int order = 101; order <= 104; order++) {
            bad.record(order, 100, Row.ALL);
            Check.due("refused anew", 1, bad.state());
        }
        bad.record(105, 100, Row.ALL);
        Check.due("5 refused anew", 3, bad.state());
    }

    private static InspectionOffice stoppedTwice() {
        InspectionOffice office = stopped();
        office.toggleMark(101);
        for (int order = 101; order <= 105; order++) {
            office.record(order, 100, Row.ALL);
        }
        Check.due("stopped anew", 3, office.state());
        return office;
    }

    private static void aMarkIsNotAnsweredTwice() {
        InspectionOffice office = stoppedTwice();
        for (int mark = 102; mark <= 105; mark++) {
            office.toggleMark(mark);
        }
        office.record(106, 100, 0);
        dueHeld("marks up to the second stop", office, 106);
        office.record(199, 100, 0);
        dueHeld("marks up to the second stop", office, 199);
    }

    private static void aMarkBehindTheSecondStop() {
        InspectionOffice office = stoppedTwice();
        office.record(106, 100, 0);
        office.toggleMark(106);
        dueInspected("a mark behind the second stop", office, 106);
        office.toggleMark(101);
        dueHeld("without the first mark", office, 101);
        dueHeld("without the first mark", office, 105);
        dueInspected("the second mark is enough", office, 106);
    }

    /** Orders 0 to 6 are the lowest with which it can stop, and behind 199 there is no lot. */
    private static void theLowestAndTheHighestStop() {
        InspectionOffice lowest = Row.of("xxxxxxx" + "o");
        lowest.toggleMark(0);
        lowest.toggleMark(6);
        Row.dueVerdicts("marks at 0 and 6", "00000003", lowest);
        lowest.toggleMark(7);
        Row.dueVerdicts("a mark at 7", "00000001", lowest);
        InspectionOffice highest = new InspectionOffice();
        for (int order = 193; order <= 199; order++) {
            highest.toggleMark(order);
            highest.record(order, 100, Row.ALL);
        }
        Check.due("stopped with the lot 199", 3, highest.state());
        Row.dueVerdicts("none is held", "0000000", highest);
    }

    /** Where inspection is not stopped, nothing begins anew with a mark. */
    private static void marksOnlyResume() {
        String lots = "xx" + "oooxooxo" + "ooooo" + "xoooox";
        InspectionOffice marked = Row.of(lots);
        InspectionOffice unmarked = Row.of(lots);
        for (int order = 0; order < 30; order++) {
            marked.toggleMark(order);
        }
        Check.due("the same state", unmarked.state(), marked.state());
        for (int order = 0; order < lots.length(); order++) {
            Check.due("stateAt " + order, unmarked.stateAt(order), marked.stateAt(order));
            Check.due("verdict " + order, unmarked.verdict(order), marked.verdict(order));
        }
        InspectionOffice first = Row.of("xxoooo");
        first.toggleMark(4);
        Row.record(first, "o");
        Row.dueStates("5 accepted past a mark", "00" + "11111" + "0", first);
    }

    /** "or takes it away": then it is as it was before. */
    private static void aMarkTakenAway() {
        InspectionOffice office = stoppedAndThen(101, 150);
        Check.due("put", true, office.toggleMark(101));
        dueInspected("marked", office, 101);
        Check.due("taken away", false, office.toggleMark(101));
        dueHeld("no mark", office, 101);
        dueHeld("no mark", office, 150);
        Check.due("put", true, office.toggleMark(150));
        Check.due("put", true, office.toggleMark(140));
        Check.due("taken away", false, office.toggleMark(150));
        dueInspected("the other one is left", office, 150);
    }

    /** With one of the seven less, it stops with the next one: the mark there is not behind it. */
    private static void theStopMoves() {
        InspectionOffice office = stopped();
        office.record(101, 100, Row.ALL);
        office.record(102, 100, 0);
        office.toggleMark(101);
        dueInspected("behind the stop at 100", office, 102);
        office.strike(STOP - 6);
        dueHeld("behind the stop at 101", office, 102);
        Row.dueLot("the lot that stops", office, 101, 0, 13, 13);
        office.record(STOP - 6, 100, 0);
        dueHeld("with a good one instead", office, 102);
        office.correct(STOP - 6, Row.ALL);
        dueInspected("with a bad one again", office, 102);
    }

    /** "and the lot is inspected", with one bad item less than under normal inspection. */
    private static void resumedByTheTightenedPlan() {
        InspectionOffice office = stopped();
        office.toggleMark(101);
        office.record(101, 5000, Row.badUpTo(32, 1));
        Row.dueLot("a of tightened", office, 101, 1, 32, 1);
        office.correct(101, Row.badUpTo(32, 2));
        Row.dueLot("one more", office, 101, 0, 32, 2);
    }
}
