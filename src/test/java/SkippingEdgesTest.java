/** The edges of skipping: promises 3 and 13, what the terms say, and promises 10 to 16 by it. */
public final class SkippingEdgesTest {
    private static final String EIGHT = "oooooooo";

    private SkippingEdgesTest() {
    }

    public static void main(String[] args) {
        noSkippingAtFirst();
        ratesFrom2To5Or0();
        noSkippingWithoutLots();
        after8Lots();
        ofEachAsManyAsTheRateTheLast();
        acceptedWithout();
        underNormalOrReduced();
        aRefusedLotBeginsTheCountAnew();
        aTightenedLotBeginsTheCountAnew();
        sinceSkippingEndedLast();
        endsWhenAnInspectedLotIsRefused();
        endsWhenReducedRefuses();
        goesOnWithAPlus1();
        endsWhenTightened();
        heldLotsAreNotSkipped();
        setForAllLots();
        Check.end();
    }

    /** "and does not skip". */
    private static void noSkippingAtFirst() {
        InspectionOffice office = Row.of("o".repeat(60));
        Check.due("60 accepted", 60, office.count(1));
        Check.due("isSkipping", false, office.isSkipping());
    }

    /** "2 to 5; 0 for no skipping". */
    private static void ratesFrom2To5Or0() {
        InspectionOffice office = Row.of("o".repeat(9));
        for (int rate : new int[] {-1, 1, 6, Integer.MIN_VALUE, Integer.MAX_VALUE}) {
            Check.dueIllegalArgument("rate " + rate, () -> office.setWays(false, false, rate));
            Check.due("none skipped", 0, office.count(2));
        }
        for (int rate = 2; rate <= 5; rate++) {
            office.setWays(false, false, rate);
            Check.due("rate " + rate, true, office.isSkipping());
            Check.dueIllegalArgument("rate 1", () -> office.setWays(false, false, 1));
            Check.dueIllegalArgument("rate 6", () -> office.setWays(false, false, 6));
            Check.due("goes on", true, office.isSkipping());
        }
        office.setWays(false, false, 0);
        Check.due("rate 0", false, office.isSkipping());
        Check.due("none skipped", 0, office.count(2));
    }

    private static void noSkippingWithoutLots() {
        for (int rate = 2; rate <= 5; rate++) {
            InspectionOffice office = new InspectionOffice();
            office.setWays(false, false, rate);
            Check.due("no lots", false, office.isSkipping());
        }
    }

    /** "then after 8 lots one behind the other [...] skipping begins". */
    private static void after8Lots() {
        for (int rate = 2; rate <= 5; rate++) {
            InspectionOffice office = Row.of("ooooooo", false, rate);
            Check.due("7", false, office.isSkipping());
            Row.record(office, "o");
            Check.due("8", true, office.isSkipping());
            Row.dueVerdicts("8", "11111111", office);
            Row.record(office, "o");
            Check.due("9", true, office.isSkipping());
            Row.dueVerdicts("9", "111111112", office);
            office.strike(0);
            Check.due("8 again", true, office.isSkipping());
            office.strike(1);
            Check.due("7 again", false, office.isSkipping());
        }
    }

    /** "of the lots that follow, of each as many as the rate only the last one is inspected". */
    private static void ofEachAsManyAsTheRateTheLast() {
        String[] groups = {"21", "221", "2221", "22221"};
        for (int rate = 2; rate <= 5; rate++) {
            String due = "1".repeat(8) + groups[rate - 2].repeat(3);
            for (int lots = 8; lots <= due.length(); lots++) {
                InspectionOffice office = Row.of("o".repeat(lots), false, rate);
                Row.dueVerdicts("rate " + rate, due.substring(0, lots), office);
                Check.due("goes on", true, office.isSkipping());
            }
        }
    }

    /** "and the others are accepted without, as skipped", bad or not. */
    private static void acceptedWithout() {
        InspectionOffice office = Row.of(EIGHT + "xoxo", false, 2);
        Row.dueVerdicts("bad ones skipped", "11111111" + "2121", office);
        Row.dueLot("skipped", office, 8, 2, 0, 0);
        Row.dueLot("inspected", office, 9, 1, 13, 0);
        Check.due("under which it would have been", 0, office.stateAt(8));
    }

    /** "inspected under normal or reduced inspection": the groups go on when it changes. */
    private static void underNormalOrReduced() {
        InspectionOffice office = Row.of("o".repeat(20), true, 3);
        Row.dueVerdicts("rate 3", "11111111" + "221".repeat(4), office);
        Row.dueStates("rate 3", "0".repeat(14) + "222222" + "2", office);
        Row.dueLot("the last of a group under reduced", office, 16, 1, 5, 0);
        Row.dueLot("skipped under reduced", office, 18, 2, 0, 0);
    }

    /** "a lot that is [...] refused, begins the count anew". */
    private static void aRefusedLotBeginsTheCountAnew() {
        for (int good = 0; good <= 7; good++) {
            InspectionOffice office = Row.of("o".repeat(good) + "x" + "ooooooo", false, 2);
            Check.due("7 behind a refused one", false, office.isSkipping());
            Row.record(office, "o");
            Check.due("8 behind a refused one", true, office.isSkipping());
        }
    }

    /** "a lot that is inspected otherwise": under tightened inspection. */
    private static void aTightenedLotBeginsTheCountAnew() {
        InspectionOffice office = Row.of("xx" + "ooooo" + "ooo", false, 2);
        Check.due("8 accepted, 5 of them under tightened", false, office.isSkipping());
        Row.record(office, "oooo");
        Check.due("7 under normal", false, office.isSkipping());
        Row.record(office, "o");
        Check.due("8 under normal", true, office.isSkipping());
        office = Row.of("xx" + "oooox" + "oooo" + "x" + "oooo", false, 2);
        Check.due("under tightened all the time", 1, office.state());
        Check.due("no skipping there", false, office.isSkipping());
    }

    /** "since skipping ended last (or since the beginning". */
    private static void sinceSkippingEndedLast() {
        InspectionOffice office = Row.of(EIGHT + "ox" + "ooooooo", false, 2);
        Row.dueVerdicts("7", "11111111" + "20" + "1111111", office);
        Check.due("7 since it ended", false, office.isSkipping());
        Row.record(office, "o");
        Check.due("8 since it ended", true, office.isSkipping());
        Row.record(office, "oooo");
        Row.dueVerdicts("groups anew", "11111111" + "20" + "11111111" + "2121", office);
    }

    /** "Skipping ends when an inspected lot is refused". */
    private static void endsWhenAnInspectedLotIsRefused() {
        String[] groups = {"21", "221", "2221", "22221"};
        for (int rate = 2; rate <= 5; rate++) {
            String skipped = "x".repeat(rate - 1);
            InspectionOffice office = Row.of(EIGHT + skipped + "o" + skipped, false, rate);
            Check.due("skipped ones do not end it", true, office.isSkipping());
            Row.record(office, "x");
            Check.due("a refused one does", false, office.isSkipping());
            Row.record(office, "oo");
            String group = groups[rate - 2];
            Row.dueVerdicts("the next are inspected", "11111111" + group
                    + group.substring(0, rate - 1) + "0" + "11", office);
        }
    }

    private static void endsWhenReducedRefuses() {
        InspectionOffice office = Row.of("o".repeat(13) + "x", true, 2);
        Row.dueStates("refused under reduced", "0".repeat(12) + "22" + "0", office);
        Check.due("ends skipping", false, office.isSkipping());
        Row.record(office, "o");
        Row.dueVerdicts("the next is inspected", "11111111" + "2121" + "20" + "1", office);
    }

    /** Accepted with a + 1 bad items is not refused: reduced ends, skipping goes on. */
    private static void goesOnWithAPlus1() {
        InspectionOffice office = Row.of("o".repeat(13) + "1", true, 2);
        Row.dueStates("a + 1 under reduced", "0".repeat(12) + "22" + "0", office);
        Check.due("goes on", true, office.isSkipping());
        Row.record(office, "oo");
        Row.dueVerdicts("in its groups", "11111111" + "2121" + "21" + "21", office);
    }

    /** "or when inspection becomes tightened". */
    private static void endsWhenTightened() {
        InspectionOffice office = Row.of(EIGHT + "ox" + "x" + "ooooo" + "ooooooo", false, 2);
        Row.dueVerdicts("no more skipped", "11111111" + "20" + "0" + "11111" + "1111111", office);
        Row.dueStates("tightened", "0".repeat(11) + "11111" + "0000000" + "0", office);
        Check.due("7 since", false, office.isSkipping());
        Row.record(office, "o");
        Check.due("8 since", true, office.isSkipping());
    }

    private static void heldLotsAreNotSkipped() {
        InspectionOffice office = Row.of(EIGHT + "ox" + "x" + "xxxxx" + EIGHT + "oo", false, 2);
        Row.dueVerdicts("held", "11111111" + "20" + "0" + "00000" + "3".repeat(10), office);
        Check.due("no skipping", false, office.isSkipping());
    }

    /** "Changes the ways of the office; that counts for all lots." */
    private static void setForAllLots() {
        InspectionOffice office = Row.of("o".repeat(20));
        Check.due("none at first", 0, office.count(2));
        int[] skipped = {6, 8, 9, 10};
        for (int rate = 2; rate <= 5; rate++) {
            office.setWays(false, false, rate);
            Check.due("skipped by rate " + rate, skipped[rate - 2], office.count(2));
        }
        office.setWays(true, true, 0);
        Check.due("none of them then", 0, office.count(2));
        Check.due("steady", 2, office.state());
    }
}
