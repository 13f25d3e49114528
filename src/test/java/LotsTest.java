/** Promises 5 to 9: record, correct, strike, lots, orderAt. */
public final class LotsTest {
    private LotsTest() {
    }

    public static void main(String[] args) {
        record();
        recordRefuses();
        recordRefusesTakenOrders();
        recordRefusesTheLot61();
        correct();
        correctRefuses();
        strike();
        strikeRefuses();
        orderAt();
        Check.end();
    }

    private static void record() {
        InspectionOffice office = new InspectionOffice();
        Check.due("the lowest of all", 1, office.record(0, 2, 0));
        Check.due("the highest of all", 2, office.record(199, 5000, Row.ALL));
        Check.due("a late one", 3, office.record(100, 60, 1L << 49));
        Check.due("lots", 3, office.lots());
        Check.due("findings of 0", 0, office.correct(0, 1));
        Check.due("findings of 199", Row.ALL, office.correct(199, 1));
        Check.due("findings of 100", 1L << 49, office.correct(100, 1));
    }

    private static void dueNotRecorded(InspectionOffice office, int order, int size,
            long findings) {
        int before = office.lots();
        Check.dueIllegalArgument("record " + order + " " + size + " " + findings,
                () -> office.record(order, size, findings));
        Check.due("lots as before", before, office.lots());
    }

    private static void recordRefuses() {
        InspectionOffice office = new InspectionOffice();
        office.record(7, 60, 0);
        for (int order : new int[] {-1, 200, Integer.MIN_VALUE, Integer.MAX_VALUE}) {
            dueNotRecorded(office, order, 60, 0);
        }
        for (int size : new int[] {1, 0, -1, 5001, Integer.MIN_VALUE, Integer.MAX_VALUE}) {
            dueNotRecorded(office, 8, size, 0);
            dueNotRecorded(office, 7, size, 0);
        }
        for (long findings : new long[] {-1, Row.ALL + 1, Long.MIN_VALUE, Long.MAX_VALUE}) {
            dueNotRecorded(office, 8, 60, findings);
            dueNotRecorded(office, 7, 60, findings);
        }
    }

    private static void recordRefusesTakenOrders() {
        InspectionOffice office = new InspectionOffice();
        office.record(7, 60, 3);
        Check.dueIllegalState("record 7 again", () -> office.record(7, 5000, 1));
        Check.due("one lot", 1, office.lots());
        Check.due("its size stays", 13, office.inspected(7));
        Check.due("its findings stay", 3, office.correct(7, 3));
    }

    private static void recordRefusesTheLot61() {
        InspectionOffice office = new InspectionOffice();
        for (int lot = 1; lot <= 60; lot++) {
            Check.due("record", lot, office.record(200 - lot, 60, 0));
        }
        Check.dueIllegalState("record the lot 61", () -> office.record(0, 60, 0));
        Check.dueIllegalArgument("a wrong size comes first", () -> office.record(0, 1, 0));
        Check.due("60 lots", 60, office.lots());
        Check.dueIllegalState("none at 0", () -> office.verdict(0));
        office.strike(199);
        Check.due("room again", 60, office.record(0, 60, 0));
    }

    private static void correct() {
        InspectionOffice office = new InspectionOffice();
        office.record(0, 100, 15);
        office.record(1, 100, 15);
        Check.due("tightened", 1, office.state());
        Check.due("findings before", 15, office.correct(0, 0));
        Check.due("normal", 0, office.state());
        Check.due("accepted", 1, office.verdict(0));
        Check.due("findings corrected", 0, office.correct(0, Row.ALL));
        Check.due("tightened again", 1, office.state());
        Check.due("all findings", Row.ALL, office.correct(0, Row.ALL));
    }

    private static void correctRefuses() {
        InspectionOffice office = new InspectionOffice();
        office.record(0, 100, 15);
        for (long findings : new long[] {-1, Row.ALL + 1, Long.MIN_VALUE, Long.MAX_VALUE}) {
            Check.dueIllegalArgument("correct to " + findings, () -> office.correct(0, findings));
            Check.dueIllegalArgument("findings come first", () -> office.correct(1, findings));
        }
        for (int order : new int[] {1, 199, -1, 200, Integer.MIN_VALUE, Integer.MAX_VALUE}) {
            Check.dueIllegalState("correct " + order, () -> office.correct(order, 0));
        }
        Check.due("findings stay", 15, office.correct(0, 15));
    }

    private static void strike() {
        InspectionOffice office = new InspectionOffice();
        office.record(10, 100, 15);
        office.record(11, 100, 15);
        office.record(12, 100, 0);
        Check.due("tightened", 1, office.stateAt(12));
        Check.due("two left", 2, office.strike(10));
        Check.due("lots", 2, office.lots());
        Check.due("normal", 0, office.stateAt(12));
        Check.due("one left", 1, office.strike(12));
        Check.due("none left", 0, office.strike(11));
        Check.due("recorded anew", 1, office.record(11, 100, 0));
        Check.due("accepted", 1, office.verdict(11));
    }

    private static void strikeRefuses() {
        InspectionOffice office = new InspectionOffice();
        office.record(10, 100, 15);
        for (int order : new int[] {0, 11, 199, -1, 200, Integer.MIN_VALUE, Integer.MAX_VALUE}) {
            Check.dueIllegalState("strike " + order, () -> office.strike(order));
        }
        office.strike(10);
        Check.dueIllegalState("strike 10 again", () -> office.strike(10));
        Check.due("no lots", 0, office.lots());
    }

    private static void orderAt() {
        InspectionOffice office = new InspectionOffice();
        Check.dueOutOfBounds("no lots", () -> office.orderAt(0));
        for (int order : new int[] {199, 20, 0, 100}) {
            office.record(order, 100, 0);
        }
        Check.due("place 0", 0, office.orderAt(0));
        Check.due("place 1", 20, office.orderAt(1));
        Check.due("place 2", 100, office.orderAt(2));
        Check.due("place 3", 199, office.orderAt(3));
        for (int place : new int[] {4, 5, -1, 60, Integer.MIN_VALUE, Integer.MAX_VALUE}) {
            Check.dueOutOfBounds("place " + place, () -> office.orderAt(place));
        }
        office.strike(0);
        Check.due("place 0 then", 20, office.orderAt(0));
        Check.dueOutOfBounds("place 3 then", () -> office.orderAt(3));
    }
}
