/** The edges of lots and marks: promises 1 and 4 to 9, and what the terms say of them. */
public final class LotEdgesTest {
    private static final long LAST_BIT = 1L << 49;

    private LotEdgesTest() {
    }

    public static void main(String[] args) {
        beginsWithoutLots();
        ordersFrom0To199();
        noTwoHaveTheSameOrder();
        sizesFrom2To5000();
        findingsFromBit0To49();
        findingsBehindTheLotOrTheSample();
        recordReturnsHowManyThereAreThen();
        correctReturnsTheFindingsBefore();
        correctTakesBits0To49();
        strikeReturnsHowManyThereAreThen();
        strikeDownToNone();
        placesFrom0ToTheLast();
        placesMoveWithTheLots();
        marksFrom0To199();
        marksStayWithTheirOrder();
        Check.end();
    }

    /** "Begins without lots" (settings at first: see PlanEdgesTest and SkippingEdgesTest). */
    private static void beginsWithoutLots() {
        InspectionOffice office = new InspectionOffice();
        Check.due("new: lots", 0, office.lots());
        Check.dueOutOfBounds("new: orderAt 0", () -> office.orderAt(0));
    }

    /** "a number from 0 to 199". */
    private static void ordersFrom0To199() {
        InspectionOffice office = new InspectionOffice();
        Check.dueIllegalArgument("order -1", () -> office.record(-1, 100, 0));
        Check.due("order 0", 1, office.record(0, 100, 0));
        Check.due("order 1", 2, office.record(1, 100, 0));
        Check.due("order 198", 3, office.record(198, 100, 0));
        Check.due("order 199", 4, office.record(199, 100, 0));
        Check.dueIllegalArgument("order 200", () -> office.record(200, 100, 0));
        for (int order : new int[] {0, 1, 198, 199}) {
            Check.due("verdict " + order, 1, office.verdict(order));
        }
        Check.due("lots", 4, office.lots());
    }

    /** "no two have the same", and "if there is a lot with this order". */
    private static void noTwoHaveTheSameOrder() {
        for (int taken : new int[] {0, 100, 199}) {
            InspectionOffice office = new InspectionOffice();
            office.record(taken, 100, 5);
            Check.dueIllegalState("again " + taken, () -> office.record(taken, 5000, 9));
            Check.due("its size stays", 13, office.inspected(taken));
            Check.due("its findings stay", 5, office.correct(taken, 5));
            if (taken > 0) {
                Check.due("one below", 2, office.record(taken - 1, 100, 0));
            }
            if (taken < 199) {
                int now = office.lots() + 1;
                Check.due("one above", now, office.record(taken + 1, 100, 0));
            }
            office.strike(taken);
            int now = office.lots() + 1;
            Check.due("struck, it is free", now, office.record(taken, 5000, 9));
            Check.due("with the new size", 32, office.inspected(taken));
        }
    }

    /** "A lot has a size from 2 to 5000". */
    private static void sizesFrom2To5000() {
        InspectionOffice office = new InspectionOffice();
        Check.dueIllegalArgument("size 1", () -> office.record(0, 1, 0));
        Check.due("size 2", 1, office.record(0, 2, 0));
        Check.due("size 3", 2, office.record(1, 3, 0));
        Check.due("size 4999", 3, office.record(2, 4999, 0));
        Check.due("size 5000", 4, office.record(3, 5000, 0));
        Check.dueIllegalArgument("size 5001", () -> office.record(4, 5001, 0));
        Check.due("inspected of 2", 2, office.inspected(0));
        Check.due("inspected of 3", 3, office.inspected(1));
        Check.due("inspected of 4999", 32, office.inspected(2));
        Check.due("inspected of 5000", 32, office.inspected(3));
    }

    /** "bit 0 for the first one, up to bit 49". */
    private static void findingsFromBit0To49() {
        InspectionOffice office = new InspectionOffice();
        office.setPlan(2, 3);
        Check.dueIllegalArgument("below none", () -> office.record(0, 5000, -1));
        Check.dueIllegalArgument("bit 50 alone", () -> office.record(0, 5000, LAST_BIT << 1));
        Check.dueIllegalArgument("bit 63 alone", () -> office.record(0, 5000, Long.MIN_VALUE));
        long[] findings = {0, 1, LAST_BIT, Row.ALL - 1, Row.ALL};
        int[] bad = {0, 1, 1, 49, 50};
        for (int order = 0; order < findings.length; order++) {
            office.record(order, 5000, findings[order]);
            Check.due("bad of " + findings[order], bad[order], office.badIn(order));
            Check.due("kept", findings[order], office.correct(order, findings[order]));
        }
        Check.dueIllegalArgument("one more", () -> office.record(9, 5000, Row.ALL + 1));
        Check.due("lots", findings.length, office.lots());
    }

    /** "a bit for each item that would be inspected": the bits behind are kept, and not counted. */
    private static void findingsBehindTheLotOrTheSample() {
        InspectionOffice office = new InspectionOffice();
        office.record(0, 2, Row.ALL);
        Row.dueLot("both of 2", office, 0, 0, 2, 2);
        Check.due("all are kept", Row.ALL, office.correct(0, Row.ALL ^ 3));
        Row.dueLot("none of 2", office, 0, 1, 2, 0);
        office.correct(0, 2);
        Row.dueLot("the last one of 2", office, 0, 0, 2, 1);
        office.correct(0, 4);
        Row.dueLot("the one behind", office, 0, 1, 2, 0);
    }

    /** "Returns how many lots there are then." */
    private static void recordReturnsHowManyThereAreThen() {
        InspectionOffice office = new InspectionOffice();
        for (int lot = 1; lot <= 60; lot++) {
            int order = lot * 37 % 200;
            Check.due("record", lot, office.record(order, 100, 0));
            Check.due("lots", lot, office.lots());
        }
    }

    /** "Returns the findings before." */
    private static void correctReturnsTheFindingsBefore() {
        InspectionOffice office = new InspectionOffice();
        office.record(0, 100, 0);
        office.record(199, 100, Row.ALL);
        Check.due("none before", 0, office.correct(0, Row.ALL));
        Check.due("all before", Row.ALL, office.correct(0, 0));
        Check.due("of the highest order", Row.ALL, office.correct(199, 1));
        Check.due("then", 1, office.correct(199, 1));
        Check.due("the same again", 1, office.correct(199, 1));
        Check.due("lots", 2, office.lots());
    }

    /** "bits 0 to 49" of correct, and that the findings count from then on. */
    private static void correctTakesBits0To49() {
        InspectionOffice office = new InspectionOffice();
        office.setPlan(2, 3);
        office.record(0, 5000, 0);
        Check.dueIllegalArgument("to -1", () -> office.correct(0, -1));
        Check.dueIllegalArgument("to bit 50", () -> office.correct(0, Row.ALL + 1));
        Check.due("nothing has changed", 0, office.correct(0, Row.ALL));
        Check.due("all bad", 50, office.badIn(0));
        Check.due("all but one", Row.ALL, office.correct(0, Row.ALL - 1));
        Check.due("49 bad", 49, office.badIn(0));
        Check.due("the last bit", Row.ALL - 1, office.correct(0, LAST_BIT));
        Check.due("one bad", 1, office.badIn(0));
    }

    private static void strikeReturnsHowManyThereAreThen() {
        InspectionOffice office = Row.of("ooo");
        Check.due("two left", 2, office.strike(1));
        Check.dueIllegalState("struck already", () -> office.strike(1));
        Check.due("one left", 1, office.strike(0));
        Check.due("none left", 0, office.strike(2));
        Check.dueIllegalState("none", () -> office.strike(2));
        Check.due("lots", 0, office.lots());
    }

    private static void strikeDownToNone() {
        InspectionOffice office = Row.of("xxxxxxx");
        Check.due("stopped", 3, office.state());
        for (int order = 0; order < 7; order++) {
            Check.due("strike", 6 - order, office.strike(order));
        }
        Check.due("normal without lots", 0, office.state());
        Check.dueOutOfBounds("no place", () -> office.orderAt(0));
        Check.due("and on from there", 1, office.record(3, 100, 0));
        Check.due("normal", 0, office.stateAt(3));
    }

    /** "0 for the lot with the lowest order", and "if there are not so many lots". */
    private static void placesFrom0ToTheLast() {
        InspectionOffice office = new InspectionOffice();
        office.record(199, 100, 0);
        Check.due("the only one", 199, office.orderAt(0));
        Check.dueOutOfBounds("one above of one", () -> office.orderAt(1));
        Check.dueOutOfBounds("one below of one", () -> office.orderAt(-1));
        office.record(0, 100, 0);
        office.record(100, 100, 0);
        int[] orders = {0, 100, 199};
        for (int place = 0; place < 3; place++) {
            Check.due("place " + place, orders[place], office.orderAt(place));
        }
        for (int place : new int[] {-1, 3, 4, 100, 199, Integer.MIN_VALUE, Integer.MAX_VALUE}) {
            Check.dueOutOfBounds("place " + place, () -> office.orderAt(place));
        }
    }

    private static void placesMoveWithTheLots() {
        InspectionOffice office = Row.of("oooo");
        office.strike(0);
        Check.due("the lowest then", 1, office.orderAt(0));
        Check.due("the last then", 3, office.orderAt(2));
        Check.dueOutOfBounds("no fourth", () -> office.orderAt(3));
        office.strike(3);
        Check.due("the last but one", 2, office.orderAt(1));
        Check.dueOutOfBounds("no third", () -> office.orderAt(2));
        office.record(0, 100, 0);
        Check.due("the lowest again", 0, office.orderAt(0));
    }

    /** "Puts a mark to resume at an order, or takes it away", order "0 to 199". */
    private static void marksFrom0To199() {
        InspectionOffice office = new InspectionOffice();
        Check.dueIllegalArgument("a mark at -1", () -> office.toggleMark(-1));
        Check.dueIllegalArgument("a mark at 200", () -> office.toggleMark(200));
        for (int order : new int[] {0, 1, 198, 199}) {
            Check.due("put at " + order, true, office.toggleMark(order));
        }
        for (int order : new int[] {199, 0, 198, 1}) {
            Check.due("taken from " + order, false, office.toggleMark(order));
            Check.due("put again at " + order, true, office.toggleMark(order));
        }
        Check.due("none was at 2", true, office.toggleMark(2));
        Check.due("none was at 197", true, office.toggleMark(197));
    }

    /** Lots come and go at an order, its mark does not. */
    private static void marksStayWithTheirOrder() {
        InspectionOffice office = new InspectionOffice();
        office.toggleMark(5);
        office.record(5, 100, 0);
        office.strike(5);
        Check.due("it was there", false, office.toggleMark(5));
        office.record(5, 100, 0);
        Check.due("a lot puts none", true, office.toggleMark(5));
    }
}
