/** Promises 10 to 16: verdict, stateAt, state, isSkipping, inspected, badIn, count. */
public final class VerdictsTest {
    private static final int[] NO_ORDERS = {4, 199, -1, 200, Integer.MIN_VALUE, Integer.MAX_VALUE};

    private VerdictsTest() {
    }

    public static void main(String[] args) {
        noSuchLots();
        noSuchVerdicts();
        singlePlans();
        reducedPlans();
        doublePlans();
        doublePlansEndWithTheLot();
        doublePlansUnderTightened();
        doublePlansNotForSmallSamples();
        normalBecomesTightened();
        normalBecomesReduced();
        reducedNeedsFewBadItems();
        tightenedBecomesNormal();
        tightenedBecomesStopped();
        stoppedHoldsUntilAMark();
        reducedBecomesNormal();
        skippingBegins();
        skippingGoesByTheRate();
        skippingEnds();
        skippingBeginsUnderReduced();
        tightenedBeginsTheCountAnew();
        lateLotsCountInTheirOrder();
        nothingStaysOfAnInspectionBefore();
        Check.end();
    }

    private static void noSuchLots() {
        InspectionOffice office = Row.of("ooxo");
        for (int order : NO_ORDERS) {
            Check.dueIllegalState("verdict " + order, () -> office.verdict(order));
            Check.dueIllegalState("stateAt " + order, () -> office.stateAt(order));
            Check.dueIllegalState("inspected " + order, () -> office.inspected(order));
            Check.dueIllegalState("badIn " + order, () -> office.badIn(order));
        }
    }

    private static void noSuchVerdicts() {
        InspectionOffice office = Row.of("ooxo");
        for (int verdict : new int[] {-1, 4, Integer.MIN_VALUE, Integer.MAX_VALUE}) {
            Check.dueIllegalArgument("count " + verdict, () -> office.count(verdict));
        }
        Row.dueVerdicts("ooxo", "1101", office);
    }

    private static void dueLot(InspectionOffice office, int order, int verdict, int inspected,
            int bad) {
        Row.dueLot("lot", office, order, verdict, inspected, bad);
    }

    private static void singlePlans() {
        InspectionOffice office = new InspectionOffice();
        office.record(0, 5000, 3);
        dueLot(office, 0, 1, 32, 2);
        office.correct(0, 7);
        dueLot(office, 0, 0, 32, 3);
        office.correct(0, 1L << 31 | 3);
        dueLot(office, 0, 0, 32, 3);
        office.correct(0, Row.ALL ^ ((1L << 32) - 1) | 3);
        dueLot(office, 0, 1, 32, 2);
        office.setPlan(2, 3);
        dueLot(office, 0, 0, 50, 20);
        office.correct(0, 255);
        dueLot(office, 0, 1, 50, 8);
        office.correct(0, 1L << 49 | 255);
        dueLot(office, 0, 0, 50, 9);
    }

    /** Ten lots under normal inspection, then a lot of 5000 under reduced: 13 items, 1 or 2 bad. */
    private static InspectionOffice reduced() {
        InspectionOffice office = Row.of("oooooooooo");
        office.setWays(false, true, 0);
        Check.due("reduced", 2, office.state());
        return office;
    }

    private static void reducedPlans() {
        InspectionOffice office = reduced();
        office.record(10, 5000, 1L << 13 | 1);
        dueLot(office, 10, 1, 13, 1);
        Check.due("stays reduced", 2, office.state());
        office.correct(10, 1L << 12 | 1);
        dueLot(office, 10, 1, 13, 2);
        Check.due("one more ends reduced", 0, office.state());
        office.correct(10, 1L << 12 | 3);
        dueLot(office, 10, 0, 13, 3);
        Check.due("refused ends reduced", 0, office.state());
        office.setWays(true, true, 0);
        Check.due("single under reduced", 13, office.inspected(10));
    }

    private static InspectionOffice doubleOffice() {
        InspectionOffice office = new InspectionOffice();
        office.setWays(true, false, 0);
        office.setPlan(1, 3);
        return office;
    }

    private static void doublePlans() {
        InspectionOffice office = doubleOffice();
        // 20 items allow 3; the first sample is of 14.
        office.record(0, 500, 1 | 1L << 14);
        dueLot(office, 0, 1, 14, 1);
        office.correct(0, 3);
        dueLot(office, 0, 1, 28, 2);
        office.correct(0, 3 | 1L << 27);
        dueLot(office, 0, 1, 28, 3);
        office.correct(0, 3 | 3L << 27);
        dueLot(office, 0, 1, 28, 3);
        office.correct(0, 3 | 3L << 26);
        dueLot(office, 0, 0, 28, 4);
        office.correct(0, 7);
        dueLot(office, 0, 1, 28, 3);
        office.correct(0, 7 | 1L << 14);
        dueLot(office, 0, 0, 28, 4);
        office.correct(0, 7 | 1L << 13);
        dueLot(office, 0, 0, 14, 4);
    }

    private static void doublePlansEndWithTheLot() {
        InspectionOffice office = doubleOffice();
        office.setPlan(2, 3);
        // 50 items allow 8; the first sample is of 34, the second one goes to the item 50.
        office.record(0, 5000, 127);
        dueLot(office, 0, 1, 50, 7);
        office.correct(0, 63);
        dueLot(office, 0, 1, 34, 6);
        // 13 items allow 2; the first sample is of 9, and the lot has 17.
        office.record(1, 17, 1);
        dueLot(office, 1, 1, 17, 1);
        office.correct(1, 1 | 7L << 17);
        dueLot(office, 1, 1, 17, 1);
        office.correct(1, 1 | 7L << 15);
        dueLot(office, 1, 0, 17, 3);
        // 5 items allow none; the first sample is of 4, and the lot has 6.
        office.record(2, 6, 0);
        dueLot(office, 2, 1, 6, 0);
    }

    private static void doublePlansUnderTightened() {
        InspectionOffice office = doubleOffice();
        office.record(0, 500, Row.ALL);
        office.record(1, 500, Row.ALL);
        dueLot(office, 1, 0, 14, 14);
        Check.due("tightened", 1, office.state());
        // 20 items allow 2 there.
        office.record(2, 500, 0);
        dueLot(office, 2, 1, 14, 0);
        office.correct(2, 1);
        dueLot(office, 2, 1, 28, 1);
        office.correct(2, 7);
        dueLot(office, 2, 0, 14, 3);
        // 8 items allow 1, none there: there is no accepting by the first sample alone.
        office.record(3, 50, 0);
        dueLot(office, 3, 1, 12, 0);
    }

    private static void doublePlansNotForSmallSamples() {
        InspectionOffice office = doubleOffice();
        office.record(0, 8, 0);
        dueLot(office, 0, 1, 3, 0);
        office.setPlan(2, 3);
        dueLot(office, 0, 1, 8, 0);
    }

    private static void normalBecomesTightened() {
        Row.dueStates("the fifth", "000001", Row.of("xooox"));
        Row.dueStates("the sixth", "0000000", Row.of("xoooox"));
        Row.dueStates("at once", "001", Row.of("xx"));
        Row.dueStates("not before normal began", "0011111000", Row.of("xxoooooxo"));
        Row.dueStates("two of the new ones", "00111110001", Row.of("xxoooooxox"));
    }

    private static void normalBecomesReduced() {
        InspectionOffice office = Row.of("ooooooooo");
        office.setWays(false, true, 0);
        Row.dueStates("nine", "0000000000", office);
        Row.record(office, "o");
        Row.dueStates("ten", "00000000002", office);
        office.setWays(false, false, 0);
        Row.dueStates("not steady", "00000000000", office);
        office = Row.of("xoooooooooo");
        office.setWays(false, true, 0);
        Row.dueStates("the last ten", "000000000002", office);
        office = Row.of("xxoooooooooooooo");
        office.setWays(false, true, 0);
        Row.dueStates("nine since normal began", "00111110000000000", office);
        Row.record(office, "o");
        Row.dueStates("ten since normal began", "001111100000000002", office);
    }

    private static void reducedNeedsFewBadItems() {
        InspectionOffice office = new InspectionOffice();
        office.setWays(false, true, 0);
        long[] findings = {3, 1, 1, 1, 0, 0, 0, 0, 0, 0, 0, 0};
        for (int order = 0; order < findings.length; order++) {
            office.record(order, 5000, findings[order]);
        }
        Row.dueStates("five, then three", "0000000000022", office);
        office.correct(1, 0);
        Row.dueStates("four", "0000000000222", office);
        office.correct(0, 0);
        office.correct(1, 3);
        office.correct(4, 1);
        Row.dueStates("five in the window that moved, too", "0000000000002", office);
    }

    private static void tightenedBecomesNormal() {
        Row.dueStates("four", "0011111", Row.of("xxoooo"));
        Row.dueStates("five", "00111110", Row.of("xxooooo"));
        Row.dueStates("five in a row", "0011111111110", Row.of("xxooooxooooo"));
        InspectionOffice office = new InspectionOffice();
        office.record(0, 100, 1);
        office.record(1, 100, 1);
        office.record(2, 5000, 3);
        dueLot(office, 2, 0, 32, 2);
        office.correct(2, 1);
        dueLot(office, 2, 1, 32, 1);
    }

    private static void tightenedBecomesStopped() {
        Row.dueStates("four", "0011111", Row.of("xxxxxx"));
        Row.dueStates("five", "00111113", Row.of("xxxxxxx"));
        Row.dueStates("five, not in a row", "0011111111113", Row.of("xxxoxoxooxox"));
        InspectionOffice office = Row.of("xxxxxxxox");
        Row.dueStates("held", "0011111333", office);
        Row.dueVerdicts("held", "000000033", office);
        dueLot(office, 7, 3, 0, 0);
        dueLot(office, 8, 3, 0, 0);
    }

    private static void stoppedHoldsUntilAMark() {
        InspectionOffice office = new InspectionOffice();
        for (int order = 0; order < 7; order++) {
            office.record(order * 10, 100, Row.ALL);
        }
        office.record(70, 100, 0);
        office.record(80, 100, Row.ALL);
        office.toggleMark(59);
        office.toggleMark(60);
        Row.dueVerdicts("marks up to the stop", "000000033", office);
        office.toggleMark(71);
        Row.dueVerdicts("a mark before the lot 80", "000000030", office);
        Row.dueStates("a mark before the lot 80", "0011111311", office);
        office.toggleMark(61);
        Row.dueVerdicts("a mark before the lot 70", "000000010", office);
        Row.dueStates("a mark before the lot 70", "0011111111", office);
        for (int order = 90; order <= 120; order += 10) {
            office.record(order, 100, Row.ALL);
        }
        Row.dueStates("five refused anew", "00111111111113", office);
        office.record(130, 100, 0);
        Row.dueVerdicts("the marks are used up", "00000001000003", office);
        office.toggleMark(130);
        Row.dueVerdicts("at its order", "00000001000001", office);
        office.record(140, 100, 0);
        office.record(150, 100, 0);
        office.record(160, 100, 0);
        Row.dueStates("four", "001111111111111111", office);
        office.record(170, 100, 0);
        Row.dueStates("five", "0011111111111111110", office);
    }

    private static void reducedBecomesNormal() {
        InspectionOffice office = reduced();
        Row.record(office, "ox");
        Row.dueStates("refused", "0000000000220", office);
        Row.record(office, "xo");
        Row.dueStates("the refused lot counts no more", "000000000022000", office);
        Row.record(office, "x");
        Row.dueStates("two of the new ones", "0000000000220001", office);
    }

    private static void skippingBegins() {
        InspectionOffice office = Row.of("ooooooo");
        office.setWays(false, false, 2);
        Check.due("seven", false, office.isSkipping());
        Row.record(office, "o");
        Check.due("eight", true, office.isSkipping());
        Row.dueVerdicts("eight", "11111111", office);
        office = Row.of("oxooooooo");
        office.setWays(false, false, 2);
        Check.due("seven behind a refused one", false, office.isSkipping());
        Row.record(office, "o");
        Check.due("eight behind a refused one", true, office.isSkipping());
        office.setWays(false, false, 0);
        Check.due("not set to skip", false, office.isSkipping());
    }

    private static void skippingGoesByTheRate() {
        InspectionOffice office = Row.of("oooooooooooooooooo");
        String[] due = {"2121212121", "2212212212", "2221222122", "2222122221"};
        for (int rate = 2; rate <= 5; rate++) {
            office.setWays(false, false, rate);
            Row.dueVerdicts("rate " + rate, "11111111" + due[rate - 2], office);
            Check.due("goes on", true, office.isSkipping());
        }
        dueLot(office, 8, 2, 0, 0);
        Check.due("skipped under normal", 0, office.stateAt(8));
        office.correct(8, Row.ALL);
        dueLot(office, 8, 2, 0, 0);
    }

    private static void skippingEnds() {
        InspectionOffice office = Row.of("oooooooooxoxoooo");
        office.setWays(false, false, 2);
        Row.dueVerdicts("ends with a refused lot", "1111111120101111", office);
        Check.due("ended", false, office.isSkipping());
        office = Row.of("ooooooooxxoooooooo");
        office.setWays(false, false, 2);
        Row.dueVerdicts("skipped lots count for nothing", "111111112011111111", office);
        Check.due("eight again", true, office.isSkipping());
        Row.dueStates("one refused", "0000000000000000000", office);
        Row.record(office, "xo");
        Row.dueVerdicts("a new group", "11111111201111111121", office);
    }

    private static void skippingBeginsUnderReduced() {
        InspectionOffice office = Row.of("oooooxooooooooooooo");
        office.setWays(false, true, 3);
        Row.dueVerdicts("reduced while skipping", "1111101111111122122", office);
        Row.dueStates("reduced while skipping", "00000000000000000000", office);
        Row.record(office, "ooo");
        Row.dueVerdicts("the tenth", "1111101111111122122122", office);
        Row.dueStates("the tenth", "00000000000000000000222", office);
        office.setWays(false, false, 3);
        Row.dueStates("not steady", "00000000000000000000000", office);
        oneMoreBadItemGoesOnSkipping();
    }

    private static void oneMoreBadItemGoesOnSkipping() {
        InspectionOffice office = Row.of("oooooooooooo");
        office.setWays(false, true, 2);
        Check.due("reduced behind ten inspected", 2, office.state());
        office.record(12, 5000, 3);
        Check.due("skipped", 2, office.verdict(12));
        office.record(13, 5000, 3);
        dueLot(office, 13, 1, 13, 2);
        Check.due("ends reduced", 0, office.state());
        Check.due("and goes on skipping", true, office.isSkipping());
    }

    private static void tightenedBeginsTheCountAnew() {
        InspectionOffice office = Row.of("xxoooooooooooo");
        office.setWays(false, false, 2);
        Row.dueStates("tightened, then normal", "001111100000000", office);
        Check.due("seven under normal", false, office.isSkipping());
        Row.record(office, "o");
        Check.due("eight under normal", true, office.isSkipping());
    }

    private static void lateLotsCountInTheirOrder() {
        InspectionOffice office = new InspectionOffice();
        office.record(30, 100, Row.ALL);
        office.record(10, 100, Row.ALL);
        Row.dueStates("30 behind 10", "001", office);
        office.record(20, 100, 0);
        Row.dueStates("20 between", "0001", office);
        for (int order = 11; order <= 14; order++) {
            office.record(order, 100, 0);
        }
        Row.dueStates("six apart", "00000000", office);
        office.record(0, 100, Row.ALL);
        Row.dueStates("two at the beginning", "001111100", office);
    }

    private static void nothingStaysOfAnInspectionBefore() {
        InspectionOffice office = Row.of("ooooooooxo");
        dueLot(office, 8, 0, 13, 13);
        office.setWays(false, false, 2);
        dueLot(office, 8, 2, 0, 0);
        office = Row.of("xoooooxxxxxx");
        dueLot(office, 11, 0, 13, 13);
        office.correct(1, Row.ALL);
        office.correct(2, Row.ALL);
        dueLot(office, 11, 3, 0, 0);
        office.correct(2, 0);
        office.correct(1, 0);
        dueLot(office, 11, 0, 13, 13);
    }
}
