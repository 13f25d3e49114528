/** The edges of switching: promises 11 and 12, and what the terms say of it. */
public final class SwitchingEdgesTest {
    private SwitchingEdgesTest() {
    }

    public static void main(String[] args) {
        normalBeforeTheFirstLot();
        notSteadyAtFirst();
        twoOfTheLast5();
        orFewerIfThereWereNotSoMany();
        twoRefusedSinceNormalBegan();
        theLast10WereAccepted();
        theLast10SinceNormalBegan();
        atMost4BadItems();
        badItemsInAllTheirSamplesTogether();
        onlyIfTheOfficeCountsAsSteady();
        skippedAndHeldLotsDoNotCount();
        theLast5WereAcceptedUnderTightened();
        fiveWereRefusedUnderTightened();
        fiveRefusedSinceTightenedBegan();
        reducedEndsWithARefusedLotOrAPlus1();
        theLotWithWhichItChangesDoesNotCount();
        byRisingOrder();
        Check.end();
    }

    /** An office that counts as steady; a lot of it may have 2 bad of 32, 1 of 13 under reduced. */
    private static InspectionOffice ofLarge(String lots) {
        InspectionOffice office = new InspectionOffice();
        office.setWays(false, true, 0);
        Row.record(office, 5000, lots);
        return office;
    }

    /** "Before the first lot inspection is normal." */
    private static void normalBeforeTheFirstLot() {
        InspectionOffice office = new InspectionOffice();
        Check.due("no lots", 0, office.state());
        office.setWays(true, true, 5);
        office.toggleMark(0);
        Check.due("no lots, other ways", 0, office.state());
        office.record(199, 100, Row.ALL);
        Check.due("the first lot", 0, office.stateAt(199));
    }

    /** "the office is not steady" at first. */
    private static void notSteadyAtFirst() {
        Row.dueStates("10", "0".repeat(10) + "0", Row.of("o".repeat(10)));
        Row.dueStates("60", "0".repeat(60) + "0", Row.of("o".repeat(60)));
    }

    /** "if, of the last 5 lots inspected since normal began, 2 were refused". */
    private static void twoOfTheLast5() {
        Row.dueStates("4 of them", "0000" + "1", Row.of("xoox"));
        Row.dueStates("5 of them", "00000" + "1", Row.of("xooox"));
        Row.dueStates("6 of them", "000000" + "0", Row.of("xoooox"));
        Row.dueStates("6, then one more", "0000000" + "1", Row.of("xooooxx"));
        Row.dueStates("5 of them, later", "0000000" + "1", Row.of("ooxooox"));
        Row.dueStates("6 of them, later", "00000000" + "0", Row.of("ooxoooox"));
        Row.dueStates("one of 5", "00000" + "0", Row.of("ooxoo"));
    }

    /** "(or fewer, if there were not so many)". */
    private static void orFewerIfThereWereNotSoMany() {
        Row.dueStates("one of one", "0" + "0", Row.of("x"));
        Row.dueStates("none of two", "00" + "0", Row.of("oo"));
        Row.dueStates("one of two", "00" + "0", Row.of("ox"));
        Row.dueStates("two of two", "00" + "1", Row.of("xx"));
        Row.dueStates("the last of three", "000" + "1", Row.of("oxx"));
        Row.dueStates("the ends of three", "000" + "1", Row.of("xox"));
    }

    /** "since normal began": the lots refused before are forgotten. */
    private static void twoRefusedSinceNormalBegan() {
        Row.dueStates("one new", "00" + "11111" + "0" + "0", Row.of("xxooooox"));
        Row.dueStates("two new", "00" + "11111" + "00" + "1", Row.of("xxoooooxx"));
        Row.dueStates("5 of them", "00" + "11111" + "00000" + "1", Row.of("xxoooooxooox"));
        Row.dueStates("6 of them", "00" + "11111" + "000000" + "0", Row.of("xxoooooxoooox"));
    }

    /** "if the last 10 lots inspected since normal began were accepted". */
    private static void theLast10WereAccepted() {
        Row.dueStates("9", "0".repeat(9) + "0", Row.of("o".repeat(9), true, 0));
        Row.dueStates("10", "0".repeat(10) + "2", Row.of("o".repeat(10), true, 0));
        Row.dueStates("11", "0".repeat(10) + "22", Row.of("o".repeat(11), true, 0));
        Row.dueStates("9 behind a refused one", "0".repeat(10) + "0",
                Row.of("x" + "o".repeat(9), true, 0));
        Row.dueStates("10 behind a refused one", "0".repeat(11) + "2",
                Row.of("x" + "o".repeat(10), true, 0));
        Row.dueStates("the tenth was refused", "0".repeat(10) + "0",
                Row.of("o".repeat(9) + "x", true, 0));
    }

    /** "since normal began", behind tightened and behind reduced. */
    private static void theLast10SinceNormalBegan() {
        Row.dueStates("9 behind tightened", "00" + "11111" + "0".repeat(9) + "0",
                Row.of("xxooooo" + "o".repeat(9), true, 0));
        Row.dueStates("10 behind tightened", "00" + "11111" + "0".repeat(10) + "2",
                Row.of("xxooooo" + "o".repeat(10), true, 0));
        Row.dueStates("9 behind reduced", "0".repeat(10) + "2" + "0".repeat(9) + "0",
                Row.of("o".repeat(10) + "x" + "o".repeat(9), true, 0));
        Row.dueStates("10 behind reduced", "0".repeat(10) + "2" + "0".repeat(10) + "2",
                Row.of("o".repeat(10) + "x" + "o".repeat(10), true, 0));
    }

    /** "with at most 4 bad items". */
    private static void atMost4BadItems() {
        Row.dueStates("3", "0".repeat(10) + "2", ofLarge("2oooooooo1"));
        Row.dueStates("4", "0".repeat(10) + "2", ofLarge("2oooooooo2"));
        Row.dueStates("5", "0".repeat(10) + "0", ofLarge("2oooo1ooo2"));
        Row.dueStates("5, then 3", "0".repeat(11) + "2", ofLarge("2oooo1ooo2o"));
        Row.dueStates("5, then 4", "0".repeat(11) + "2", ofLarge("1oooo2ooo2o"));
        Row.dueStates("5, then 5", "0".repeat(11) + "0", ofLarge("2oooo1ooo22"));
    }

    /** "in all their samples together": not behind them, and in the second ones, too. */
    private static void badItemsInAllTheirSamplesTogether() {
        InspectionOffice office = ofLarge("oooooooo22");
        String normal = "0".repeat(10) + "0";
        String reduced = "0".repeat(10) + "2";
        office.correct(0, Row.ALL ^ Row.bad(32));
        Row.dueStates("18 behind the sample", reduced, office);
        office.correct(0, 1L << 31);
        Row.dueStates("one in it", normal, office);
        office.setPlan(1, 3);
        office.setWays(true, true, 0);
        office.correct(0, 7L << 22);
        Row.dueStates("3 behind a first sample that is enough", reduced, office);
        office.correct(0, Row.bad(4));
        Row.dueStates("8 in first samples", normal, office);
        office.correct(8, 0);
        office.correct(9, 0);
        Row.dueStates("4 in a first sample", reduced, office);
        office.correct(0, Row.bad(4) | 1L << 43);
        Row.dueLot("with its second sample", office, 0, 1, 44, 5);
        Row.dueStates("5 with its second sample", normal, office);
        office.correct(0, Row.bad(4) | 1L << 44);
        Row.dueStates("4 up to its last item", reduced, office);
    }

    /** "and the office counts as steady". */
    private static void onlyIfTheOfficeCountsAsSteady() {
        InspectionOffice office = Row.of("o".repeat(12));
        Row.dueStates("not steady", "0".repeat(12) + "0", office);
        office.setWays(false, true, 0);
        Row.dueStates("steady", "0".repeat(10) + "222", office);
        office.setWays(false, false, 0);
        Row.dueStates("no more", "0".repeat(12) + "0", office);
    }

    /** "lots that are skipped, or not inspected as inspection is stopped, do not count". */
    private static void skippedAndHeldLotsDoNotCount() {
        Row.dueStates("9 inspected", "0".repeat(11) + "0", Row.of("o".repeat(11), true, 2));
        Row.dueStates("10 inspected", "0".repeat(12) + "2", Row.of("o".repeat(12), true, 2));
        Row.dueStates("bad ones skipped", "0".repeat(12) + "2",
                Row.of("ooooooooxoxo", true, 2));
        InspectionOffice office = Row.of("xxxxxxx" + "ooooo" + "ooo");
        office.toggleMark(12);
        Row.dueStates("5 held, 3 accepted", "00" + "11111" + "33333" + "111" + "1", office);
        Row.record(office, "oo");
        Row.dueStates("5 held, 5 accepted", "00" + "11111" + "33333" + "11111" + "0", office);
        office = Row.of("xxxxxxx" + "xxxxx" + "xxxx");
        office.toggleMark(12);
        Row.dueStates("5 held, 4 refused", "00" + "11111" + "33333" + "1111" + "1", office);
    }

    /** "if the last 5 lots inspected since tightened began were accepted". */
    private static void theLast5WereAcceptedUnderTightened() {
        Row.dueStates("4", "00" + "1111" + "1", Row.of("xxoooo"));
        Row.dueStates("5", "00" + "11111" + "0", Row.of("xxooooo"));
        Row.dueStates("6", "00" + "11111" + "00", Row.of("xxoooooo"));
        Row.dueStates("4, one refused, 4", "00" + "1".repeat(9) + "1", Row.of("xxooooxoooo"));
        Row.dueStates("4, one refused, 5", "00" + "1".repeat(10) + "0", Row.of("xxooooxooooo"));
        Row.dueStates("3 before it began, and 4", "00000" + "1111" + "1", Row.of("oooxxoooo"));
        Row.dueStates("1 before it began, and 4", "000" + "1111" + "1", Row.of("xoxoooo"));
        Row.dueStates("1 before it began, and 5", "000" + "11111" + "0", Row.of("xoxooooo"));
    }

    /** "Tightened becomes stopped if 5 lots were refused since tightened began." */
    private static void fiveWereRefusedUnderTightened() {
        Row.dueStates("4", "00" + "1111" + "1", Row.of("xxxxxx"));
        Row.dueStates("5", "00" + "11111" + "3", Row.of("xxxxxxx"));
        Row.dueStates("6", "00" + "11111" + "33", Row.of("xxxxxxxx"));
        String apart = "xx" + "xoooo".repeat(3) + "x";
        Row.dueStates("4 far apart", "00" + "1".repeat(16) + "1", Row.of(apart));
        Row.dueStates("4, then 4 accepted", "00" + "1".repeat(20) + "1", Row.of(apart + "oooo"));
        Row.dueStates("5 far apart", "00" + "1".repeat(21) + "3", Row.of(apart + "oooox"));
    }

    /** "since tightened began": those of an earlier tightened inspection are forgotten. */
    private static void fiveRefusedSinceTightenedBegan() {
        String before = "xx" + "xxxx" + "ooooo";
        String states = "00" + "1".repeat(9);
        Row.dueStates("4 before, 4 anew", states + "00" + "1111" + "1",
                Row.of(before + "xx" + "xxxx"));
        Row.dueStates("4 before, 5 anew", states + "00" + "11111" + "3",
                Row.of(before + "xx" + "xxxxx"));
    }

    /** "Reduced becomes normal if a lot is refused, or accepted with a + 1 bad items." */
    private static void reducedEndsWithARefusedLotOrAPlus1() {
        String before = "o".repeat(10);
        String states = "0".repeat(10);
        Row.dueStates("a - 1", states + "2" + "2", ofLarge(before + "0"));
        Row.dueStates("a", states + "2" + "2", ofLarge(before + "1"));
        Row.dueStates("a + 1", states + "2" + "0", ofLarge(before + "2"));
        Row.dueStates("a + 2", states + "2" + "0", ofLarge(before + "3"));
        Row.dueStates("a, time and again", states + "2".repeat(20) + "2",
                ofLarge(before + "1".repeat(20)));
        InspectionOffice office = ofLarge(before + "23");
        Check.due("a + 1 is accepted", 1, office.verdict(10));
        office.correct(10, 7);
        Check.due("a + 2 is refused", 0, office.verdict(10));
    }

    /** "the lot with which it changes does not count any more for what it becomes". */
    private static void theLotWithWhichItChangesDoesNotCount() {
        Row.dueStates("tightened, 4 refused behind it", "00" + "1111" + "1", Row.of("xxxxxx"));
        Row.dueStates("normal, 9 accepted behind it", "00" + "11111" + "0".repeat(9) + "0",
                Row.of("xxooooo" + "o".repeat(9), true, 0));
        String reduced = "o".repeat(10);
        String states = "0".repeat(10) + "2";
        Row.dueStates("normal, one refused behind it", states + "0" + "0",
                Row.of(reduced + "xx", true, 0));
        Row.dueStates("normal, two refused behind it", states + "00" + "1",
                Row.of(reduced + "xxx", true, 0));
        Row.dueStates("a + 1, then 9", states + "0".repeat(9) + "0",
                ofLarge(reduced + "2" + "o".repeat(9)));
        Row.dueStates("a + 1, then 10 with 4 bad", states + "0".repeat(10) + "2",
                ofLarge(reduced + "2" + "2oooooooo2"));
    }

    /** "Lots are gone through by rising order", whenever they were recorded. */
    private static void byRisingOrder() {
        String lots = "xoxoooooxxo";
        String due = "000" + "11111" + "00" + "1" + "1";
        Row.dueStates("one behind the other", due, Row.of(lots));
        InspectionOffice falling = new InspectionOffice();
        for (int order = lots.length() - 1; order >= 0; order--) {
            falling.record(order, 100, lots.charAt(order) == 'x' ? Row.ALL : 0);
        }
        Row.dueStates("the last one first", due, falling);
        InspectionOffice ends = new InspectionOffice();
        ends.record(199, 100, 0);
        ends.record(1, 100, Row.ALL);
        Row.dueStates("one refused", "00" + "0", ends);
        ends.record(0, 100, Row.ALL);
        Row.dueStates("a late one ahead of all", "00" + "1" + "1", ends);
    }
}
