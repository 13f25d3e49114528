/** The edges of double plans: what the terms say of them, and promises 10, 14 and 15 by them. */
public final class DoublePlanEdgesTest {
    private DoublePlanEdgesTest() {
    }

    public static void main(String[] args) {
        onlyIfTheOfficeIsSetToThem();
        onlyIfNIs5OrMore();
        notUnderReduced();
        theFirstSampleIsRoundedUp();
        acceptedAtOnceIfAtMostAMinus2();
        neverIfAIsBelow2();
        refusedIfMoreThanA();
        otherwiseASecondSampleOfAsMany();
        acceptedIfAtMostAOfBoth();
        asFarAsTheLotHasSoMany();
        upToIts50thItem();
        aOfThisInspection();
        Check.end();
    }

    /** An office with double plans, so that the next lot, of order 20, is inspected so. */
    private static InspectionOffice officeUnder(int letter, int quality, int state) {
        InspectionOffice office = new InspectionOffice();
        office.setPlan(Letters.level(letter), quality);
        Row.record(office, state == 0 ? "" : state == 1 ? "xx" : "oooooooooo");
        office.setWays(true, state == 2, 0);
        Check.due("inspection", state, office.state());
        return office;
    }

    private interface Plan {
        void check(InspectionOffice office, int letter, int a, String what);
    }

    /** Each double plan that there is, under normal and under tightened inspection. */
    private static void forEachPlan(Plan plan) {
        for (int state = 0; state <= 1; state++) {
            for (int letter = 2; letter <= 7; letter++) {
                for (int quality = 0; quality <= 3; quality++) {
                    InspectionOffice office = officeUnder(letter, quality, state);
                    office.record(20, Letters.size(letter), 0);
                    plan.check(office, letter, Letters.accepting(letter, quality, state),
                            "letter " + letter + " quality " + quality + " under " + state);
                }
            }
        }
    }

    private static void due(String what, InspectionOffice office, long findings, int verdict,
            int inspected, int bad) {
        office.correct(20, findings);
        Row.dueLot(what, office, 20, verdict, inspected, bad);
    }

    /** "if the office is set to them": not at first, and not behind setWays with false. */
    private static void onlyIfTheOfficeIsSetToThem() {
        InspectionOffice office = new InspectionOffice();
        office.record(20, 5000, Row.ALL);
        Row.dueLot("at first", office, 20, 0, 32, 32);
        office.setWays(true, false, 0);
        Row.dueLot("set", office, 20, 0, 22, 22);
        office.setWays(false, false, 0);
        Row.dueLot("set back", office, 20, 0, 32, 32);
    }

    /** "and n is 5 or more": 3 is not, 5 is. */
    private static void onlyIfNIs5OrMore() {
        for (int state = 0; state <= 1; state++) {
            int[] inspected = {2, 3, 4, 6};
            for (int letter = 0; letter <= 3; letter++) {
                InspectionOffice office = officeUnder(letter, 1, state);
                office.record(20, Letters.size(letter), Row.ALL);
                Check.due("letter " + letter + " under " + state, inspected[letter],
                        office.inspected(20));
            }
        }
        InspectionOffice office = officeUnder(2, 1, 0);
        office.setPlan(2, 1);
        office.record(4, 4, Row.ALL);
        Check.due("3 of 4", 3, office.inspected(4));
        office.record(5, 5, Row.ALL);
        Check.due("4 of 5", 4, office.inspected(5));
    }

    /** "only under normal and tightened inspection". */
    private static void notUnderReduced() {
        for (int letter = 0; letter <= 7; letter++) {
            InspectionOffice office = officeUnder(letter, 1, 2);
            office.record(20, Letters.size(letter), 0);
            Check.due("under reduced", 2, office.stateAt(20));
            Check.due("its single sample", Letters.sample(letter, 2), office.inspected(20));
            office.correct(20, Row.ALL);
            Check.due("all bad in it", Letters.sample(letter, 2), office.badIn(20));
        }
    }

    /** "the first n * 2 / 3 items, rounded up". */
    private static void theFirstSampleIsRoundedUp() {
        forEachPlan((office, letter, a, what) -> {
            int first = Letters.first(letter);
            due(what + " all bad", office, Row.ALL, 0, first, first);
            due(what + " too many up to its last", office, Row.badUpTo(first, a + 1),
                    0, first, a + 1);
            due(what + " one too many behind its last", office, Row.badUpTo(first + 1, a + 1),
                    0, Letters.both(letter), a + 1);
        });
    }

    /** "the lot is accepted if at most a - 2 of them are bad". */
    private static void acceptedAtOnceIfAtMostAMinus2() {
        forEachPlan((office, letter, a, what) -> {
            int first = Letters.first(letter);
            for (int bad = 0; bad <= a - 2; bad++) {
                due(what + " accepted with " + bad, office, Row.badUpTo(first, bad),
                        1, first, bad);
            }
            if (a >= 2) {
                due(what + " all bad behind", office, Row.ALL ^ Row.badUpTo(first, first),
                        1, first, 0);
                due(what + " not at once", office, Row.badUpTo(first, a - 1),
                        1, Letters.both(letter), a - 1);
            }
        });
    }

    /** "(never, if a is below 2)": with none bad there is a second sample for 0 and 1. */
    private static void neverIfAIsBelow2() {
        forEachPlan((office, letter, a, what) -> {
            int reached = a < 2 ? Letters.both(letter) : Letters.first(letter);
            due(what + " none bad", office, 0, 1, reached, 0);
        });
    }

    /** "refused if more than a are". */
    private static void refusedIfMoreThanA() {
        forEachPlan((office, letter, a, what) -> {
            int first = Letters.first(letter);
            due(what + " a of the first", office, Row.bad(a), 1, Letters.both(letter), a);
            due(what + " one more", office, Row.bad(a + 1), 0, first, a + 1);
            if (a + 2 <= first) {
                due(what + " two more", office, Row.bad(a + 2), 0, first, a + 2);
            }
        });
    }

    /** "otherwise a second sample of as many items again follows". */
    private static void otherwiseASecondSampleOfAsMany() {
        forEachPlan((office, letter, a, what) -> {
            int both = Letters.both(letter);
            long inFirst = Row.bad(a);
            due(what + " its last item", office, inFirst | 1L << (both - 1), 0, both, a + 1);
            if (both < 50) {
                due(what + " the item behind", office, inFirst | 1L << both, 1, both, a);
            }
        });
    }

    /** "the lot is accepted if at most a items of both are bad, otherwise it is refused". */
    private static void acceptedIfAtMostAOfBoth() {
        forEachPlan((office, letter, a, what) -> {
            int both = Letters.both(letter);
            for (int inFirst = a < 2 ? 0 : a - 1; inFirst <= a; inFirst++) {
                long first = Row.bad(inFirst);
                due(what + " a of both", office, first | Row.badUpTo(both, a - inFirst),
                        1, both, a);
                due(what + " one more of both", office, first | Row.badUpTo(both, a - inFirst + 1),
                        0, both, a + 1);
            }
        });
    }

    private static void dueReached(int level, int size, int reached) {
        InspectionOffice office = new InspectionOffice();
        office.setPlan(level, 0);
        office.setWays(true, false, 0);
        office.record(20, size, Row.ALL ^ Row.bad(reached));
        Row.dueLot("size " + size, office, 20, 1, reached, 0);
        office.correct(20, 1L << (reached - 1));
        Row.dueLot("size " + size + " last bad", office, 20, 0, reached, 1);
    }

    /** "(as far as the lot has so many": one less than both samples, as many, one more. */
    private static void asFarAsTheLotHasSoMany() {
        dueReached(2, 5, 5);
        dueReached(2, 6, 6);
        dueReached(2, 7, 7);
        dueReached(2, 8, 8);
        dueReached(1, 9, 8);
        dueReached(2, 9, 9);
        dueReached(2, 10, 10);
        dueReached(2, 11, 11);
        dueReached(2, 12, 12);
        dueReached(2, 13, 12);
        dueReached(2, 16, 16);
        dueReached(2, 17, 17);
        dueReached(2, 18, 18);
        dueReached(2, 19, 18);
        dueReached(2, 51, 28);
    }

    /** "and up to its 50th item)". */
    private static void upToIts50thItem() {
        InspectionOffice office = officeUnder(7, 3, 0);
        office.record(20, 501, 0);
        due("the 50th is bad", office, Row.bad(8) | 1L << 49, 0, 50, 9);
        due("the 49th is bad", office, Row.bad(8) | 1L << 48, 0, 50, 9);
        due("eight in the first", office, Row.bad(8), 1, 50, 8);
        office.setPlan(1, 3);
        due("44 of the lower letter", office, Row.bad(5) | 31L << 44, 1, 44, 5);
        due("the 44th is bad", office, Row.bad(5) | 1L << 43, 0, 44, 6);
    }

    /** "with a for the accepting number of this inspection as above". */
    private static void aOfThisInspection() {
        InspectionOffice normal = officeUnder(5, 3, 0);
        normal.record(20, Letters.size(5), 0);
        due("one is 3 - 2", normal, 1, 1, 14, 1);
        due("three", normal, 7, 1, 28, 3);
        due("four", normal, 15, 0, 14, 4);
        InspectionOffice tightened = officeUnder(5, 3, 1);
        tightened.record(20, Letters.size(5), 0);
        due("none is 2 - 2", tightened, 0, 1, 14, 0);
        due("one is more", tightened, 1, 1, 28, 1);
        due("two", tightened, 3, 1, 28, 2);
        due("three are too many", tightened, 7, 0, 14, 3);
        InspectionOffice lower = officeUnder(4, 3, 1);
        lower.record(20, Letters.size(4), 0);
        due("2 is 1 there", lower, 0, 1, 18, 0);
    }
}
