/** Every call of the face on an office without lots: a new one, one set otherwise, a struck one. */
public final class NoLotsTest {
    private NoLotsTest() {
    }

    public static void main(String[] args) {
        questions("new", new InspectionOffice());
        questions("set otherwise", setOtherwise());
        questions("struck", struck());
        settings();
        noneToCorrectOrStrike();
        theFirstLot();
        plans();
        curves();
        Check.end();
    }

    private static InspectionOffice setOtherwise() {
        InspectionOffice office = new InspectionOffice();
        office.setPlan(2, 3);
        office.setWays(true, true, 5);
        office.toggleMark(0);
        office.toggleMark(199);
        return office;
    }

    private static InspectionOffice struck() {
        InspectionOffice office = Row.of("o".repeat(20) + "x".repeat(40), true, 2);
        for (int order = 0; order < 60; order++) {
            Check.due("strike", 59 - order, office.strike(order));
        }
        return office;
    }

    private static void questions(String what, InspectionOffice office) {
        Check.due(what + ": lots", 0, office.lots());
        Check.due(what + ": state", 0, office.state());
        Check.due(what + ": isSkipping", false, office.isSkipping());
        for (int verdict = 0; verdict <= 3; verdict++) {
            Check.due(what + ": count " + verdict, 0, office.count(verdict));
        }
        for (int place : new int[] {-1, 0, 1}) {
            Check.dueOutOfBounds(what + ": orderAt " + place, () -> office.orderAt(place));
        }
        for (int order : new int[] {-1, 0, 1, 59, 199, 200}) {
            Check.dueIllegalState(what + ": verdict " + order, () -> office.verdict(order));
            Check.dueIllegalState(what + ": stateAt " + order, () -> office.stateAt(order));
            Check.dueIllegalState(what + ": inspected " + order, () -> office.inspected(order));
            Check.dueIllegalState(what + ": badIn " + order, () -> office.badIn(order));
        }
    }

    private static void settings() {
        InspectionOffice office = new InspectionOffice();
        office.setPlan(0, 0);
        office.setWays(true, true, 2);
        Check.due("a mark", true, office.toggleMark(100));
        Check.due("no mark", false, office.toggleMark(100));
        questions("settings", office);
    }

    private static void noneToCorrectOrStrike() {
        InspectionOffice office = new InspectionOffice();
        for (int order : new int[] {-1, 0, 199, 200}) {
            Check.dueIllegalState("correct " + order, () -> office.correct(order, 0));
            Check.dueIllegalArgument("correct to -1 " + order, () -> office.correct(order, -1));
            Check.dueIllegalState("strike " + order, () -> office.strike(order));
        }
        questions("none", office);
    }

    private static void theFirstLot() {
        for (int order : new int[] {0, 100, 199}) {
            for (InspectionOffice office : new InspectionOffice[] {
                    new InspectionOffice(), setOtherwise(), struck()}) {
                Check.due("record", 1, office.record(order, 2, 0));
                Row.dueLot("the first lot", office, order, 1, 2, 0);
                Check.due("under normal", 0, office.stateAt(order));
                Check.due("its place", order, office.orderAt(0));
                Check.dueOutOfBounds("the only one", () -> office.orderAt(1));
                Check.due("strike", 0, office.strike(order));
                questions("struck again", office);
            }
        }
    }

    private static void plans() {
        InspectionOffice office = new InspectionOffice();
        Check.due("letter", 6, office.letter(5000));
        Check.due("sample", 32, office.sample(5000, 0));
        Check.due("accepting", 2, office.accepting(5000, 0));
    }

    private static void curves() {
        InspectionOffice office = new InspectionOffice();
        Check.due("samples", 56, office.samples(8, 3));
        Check.due("accepted", 140, office.accepted(10, 3, 4, 1));
        Check.due("acceptedByListing", 140, office.acceptedByListing(10, 3, 4, 1));
        Check.due("acceptedTwice", 3535, office.acceptedTwice(10, 3, 3, 2));
    }
}
