/** Rows of lots one behind the other, told by a sign each, and the answers that are due on them. */
final class Row {
    static final long ALL = (1L << 50) - 1;

    private Row() {
    }

    /** Lots of 100 items; their plan under normal takes 13 of them and allows none to be bad. */
    static InspectionOffice of(String lots) {
        InspectionOffice office = new InspectionOffice();
        record(office, lots);
        return office;
    }

    /** As above, in an office with these ways. */
    static InspectionOffice of(String lots, boolean steady, int rate) {
        InspectionOffice office = of(lots);
        office.setWays(false, steady, rate);
        return office;
    }

    static void record(InspectionOffice office, String lots) {
        record(office, 100, lots);
    }

    /** The sign x is for a lot of which all is bad, o for a good one, a digit for so many bad. */
    static void record(InspectionOffice office, int size, String lots) {
        int from = office.lots();
        for (int at = 0; at < lots.length(); at++) {
            char sign = lots.charAt(at);
            office.record(from + at, size, sign == 'x' ? ALL : sign == 'o' ? 0 : bad(sign - '0'));
        }
    }

    /** So many bad items at the beginning. */
    static long bad(int items) {
        return (1L << items) - 1;
    }

    /** So many bad items, the last of them as the item of this number (from 1). */
    static long badUpTo(int last, int items) {
        return bad(items) << (last - items);
    }

    static void dueVerdicts(String what, String want, InspectionOffice office) {
        int[] counts = new int[4];
        for (int at = 0; at < want.length(); at++) {
            int verdict = want.charAt(at) - '0';
            counts[verdict]++;
            Check.due(what + ": verdict " + at, verdict, office.verdict(office.orderAt(at)));
        }
        for (int verdict = 0; verdict <= 3; verdict++) {
            Check.due(what + ": count " + verdict, counts[verdict], office.count(verdict));
        }
    }

    /** The last digit is for the inspection behind the last lot. */
    static void dueStates(String what, String want, InspectionOffice office) {
        Check.due(what + ": lots", want.length() - 1, office.lots());
        for (int at = 0; at < want.length() - 1; at++) {
            Check.due(what + ": stateAt " + at, want.charAt(at) - '0',
                    office.stateAt(office.orderAt(at)));
        }
        Check.due(what + ": state", want.charAt(want.length() - 1) - '0', office.state());
    }

    static void dueLot(String what, InspectionOffice office, int order, int verdict,
            int inspected, int bad) {
        Check.due(what + ": verdict " + order, verdict, office.verdict(order));
        Check.due(what + ": inspected " + order, inspected, office.inspected(order));
        Check.due(what + ": badIn " + order, bad, office.badIn(order));
    }
}
