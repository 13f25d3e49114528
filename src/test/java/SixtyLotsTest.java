/** Every call of the face on an office with as many lots as there may be, and at one lot less. */
public final class SixtyLotsTest {
    private SixtyLotsTest() {
    }

    public static void main(String[] args) {
        the60thAndNoMore();
        roomAgainBehindAStrike();
        placesUpTo59();
        ordersAllOver();
        correctTheLastOne();
        settingsForAll60();
        normalThroughout();
        tightenedBehindTheLast();
        reducedThroughout();
        tightenedAtLast();
        stoppedAndHeld();
        resumedByTheLast();
        skippedByEachRate();
        struckAndRecordedTimeAndAgain();
        upToThe512thCall();
        Check.end();
    }

    private static void dueCounts(String what, InspectionOffice office, int... counts) {
        for (int verdict = 0; verdict <= 3; verdict++) {
            Check.due(what + ": count " + verdict, counts[verdict], office.count(verdict));
        }
    }

    /** "or there are 60 lots". */
    private static void the60thAndNoMore() {
        InspectionOffice office = Row.of("o".repeat(58));
        Check.due("the 59th", 59, office.record(58, 100, 0));
        Check.due("the 60th", 60, office.record(59, 100, 0));
        for (int order : new int[] {60, 100, 199}) {
            Check.dueIllegalState("the 61st at " + order, () -> office.record(order, 100, 0));
            Check.dueIllegalState("there is none", () -> office.verdict(order));
        }
        Check.dueIllegalState("one that there is", () -> office.record(0, 100, 0));
        Check.dueIllegalArgument("order first", () -> office.record(200, 100, 0));
        Check.dueIllegalArgument("size first", () -> office.record(60, 1, 0));
        Check.dueIllegalArgument("findings first", () -> office.record(60, 100, -1));
        Check.due("lots", 60, office.lots());
    }

    private static void roomAgainBehindAStrike() {
        InspectionOffice office = Row.of("o".repeat(60));
        Check.due("strike", 59, office.strike(30));
        Check.due("record elsewhere", 60, office.record(199, 100, 0));
        Check.dueIllegalState("no room for it", () -> office.record(30, 100, 0));
        Check.due("strike the last", 59, office.strike(199));
        Check.due("record it again", 60, office.record(30, 100, 0));
        Check.dueIllegalState("no room for more", () -> office.record(199, 100, 0));
    }

    private static void placesUpTo59() {
        InspectionOffice office = Row.of("o".repeat(60));
        Check.due("place 0", 0, office.orderAt(0));
        Check.due("place 58", 58, office.orderAt(58));
        Check.due("place 59", 59, office.orderAt(59));
        for (int place : new int[] {-1, 60, 61, 199}) {
            Check.dueOutOfBounds("place " + place, () -> office.orderAt(place));
        }
        office.strike(10);
        Check.due("place 58 then", 59, office.orderAt(58));
        Check.dueOutOfBounds("place 59 then", () -> office.orderAt(59));
    }

    private static void ordersAllOver() {
        InspectionOffice office = new InspectionOffice();
        for (int lot = 59; lot >= 0; lot--) {
            Check.due("record", 60 - lot, office.record(199 * lot / 59, 100, 0));
        }
        for (int place = 0; place < 60; place++) {
            Check.due("place " + place, 199 * place / 59, office.orderAt(place));
        }
        Check.due("the highest order", 1, office.verdict(199));
    }

    private static void correctTheLastOne() {
        InspectionOffice office = Row.of("o".repeat(60));
        Check.due("none before", 0, office.correct(59, Row.ALL));
        Row.dueLot("refused", office, 59, 0, 13, 13);
        dueCounts("one refused", office, 1, 59, 0, 0);
        Check.due("normal", 0, office.state());
        Check.due("none before", 0, office.correct(58, Row.ALL));
        dueCounts("two refused", office, 2, 58, 0, 0);
        Check.due("tightened", 1, office.state());
    }

    private static void settingsForAll60() {
        InspectionOffice office = Row.of("o".repeat(60));
        office.setPlan(2, 3);
        Check.due("the first", 20, office.inspected(0));
        Check.due("the last", 20, office.inspected(59));
        office.setWays(true, false, 0);
        Check.due("the first by a double plan", 14, office.inspected(0));
        Check.due("the last by a double plan", 14, office.inspected(59));
        office.setWays(true, true, 0);
        Check.due("the last under reduced", 8, office.inspected(59));
        Check.due("a mark", true, office.toggleMark(59));
        Check.due("still reduced", 2, office.state());
    }

    private static void normalThroughout() {
        InspectionOffice office = Row.of("o".repeat(60));
        dueCounts("all good", office, 0, 60, 0, 0);
        Row.dueStates("all good", "0".repeat(60) + "0", office);
        office = Row.of("xooooo".repeat(10), true, 0);
        dueCounts("each sixth refused", office, 10, 50, 0, 0);
        Row.dueStates("each sixth refused", "0".repeat(60) + "0", office);
    }

    private static void tightenedBehindTheLast() {
        InspectionOffice office = Row.of("o".repeat(55) + "xooox", false, 0);
        Row.dueStates("two of the last five", "0".repeat(60) + "1", office);
        office = Row.of("o".repeat(54) + "xoooox", false, 0);
        Row.dueStates("two of the last six", "0".repeat(60) + "0", office);
    }

    private static void reducedThroughout() {
        InspectionOffice office = Row.of("o".repeat(60), true, 0);
        Row.dueStates("reduced", "0".repeat(10) + "2".repeat(50) + "2", office);
        office.correct(59, Row.ALL);
        Row.dueStates("the last refused", "0".repeat(10) + "2".repeat(50) + "0", office);
    }

    /** No more than 25 lots of a tightened inspection go by before it changes. */
    private static void tightenedAtLast() {
        String tightened = "xx" + "oooox".repeat(4) + "oooo";
        InspectionOffice office = Row.of("o".repeat(34) + tightened);
        Row.dueStates("24 under tightened", "0".repeat(36) + "1".repeat(24) + "1", office);
        office = Row.of("o".repeat(33) + tightened + "x");
        Row.dueStates("stopped", "0".repeat(35) + "1".repeat(25) + "3", office);
        office = Row.of("o".repeat(33) + tightened + "o");
        Row.dueStates("normal", "0".repeat(35) + "1".repeat(25) + "0", office);
    }

    private static void stoppedAndHeld() {
        InspectionOffice office = Row.of("x".repeat(60));
        dueCounts("53 held", office, 7, 0, 0, 53);
        Row.dueStates("53 held", "00" + "11111" + "3".repeat(53) + "3", office);
    }

    private static void resumedByTheLast() {
        InspectionOffice office = Row.of("x".repeat(59) + "o");
        office.toggleMark(59);
        dueCounts("52 held", office, 7, 1, 0, 52);
        Row.dueStates("52 held", "00" + "11111" + "3".repeat(52) + "1" + "1", office);
        office.toggleMark(59);
        dueCounts("53 held", office, 7, 0, 0, 53);
        office.toggleMark(60);
        dueCounts("a mark behind the last", office, 7, 0, 0, 53);
    }

    private static void skippedByEachRate() {
        int[] skipped = {26, 35, 39, 42};
        for (int rate = 2; rate <= 5; rate++) {
            InspectionOffice office = Row.of("o".repeat(60), false, rate);
            dueCounts("rate " + rate, office, 0, 60 - skipped[rate - 2], skipped[rate - 2], 0);
            Check.due("goes on", true, office.isSkipping());
            office.setWays(false, false, 0);
            dueCounts("rate 0", office, 0, 60, 0, 0);
        }
    }

    private static void struckAndRecordedTimeAndAgain() {
        InspectionOffice office = Row.of("o".repeat(60));
        for (int time = 0; time < 100; time++) {
            int order = 7 * time % 60;
            Check.due("strike", 59, office.strike(order));
            Check.due("record", 60, office.record(order, 100, Row.ALL));
            office.correct(order, 0);
        }
        Row.dueStates("all good", "0".repeat(60) + "0", office);
    }

    /** "An object is used for at most 512 calls": 61 by the row, two each time, and the last one. */
    private static void upToThe512thCall() {
        InspectionOffice office = Row.of("o".repeat(60));
        for (int time = 1; time <= 225; time++) {
            int bad = time % 14;
            Check.due("findings before", Row.bad((time - 1) % 14),
                    office.correct(0, Row.bad(bad)));
            Check.due("bad then", bad, office.badIn(0));
        }
        Check.due("the 512th call", 59, office.count(1));
    }
}
