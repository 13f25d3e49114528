/** The edges of plans: promises 2 and 17 to 19, single plans at work, and the terms on them. */
public final class PlanEdgesTest {
    private PlanEdgesTest() {
    }

    public static void main(String[] args) {
        levelAndQualityAre1AtFirst();
        levelsFrom0To2();
        qualitiesFrom0To3();
        setPlanCountsForAllLots();
        classesEndAtTheirLastSizes();
        anEqualSampleIsNotGreater();
        theNextLowerLetterAndSoOn();
        theLowestAndTheHighestLetter();
        sizesFrom2To5000();
        statesFrom0To2();
        acceptingNumbersAreRoundedDown();
        oneLessButNotBelow0();
        reducedTakesTheLetter2Lower();
        atMostABadItems(0);
        atMostABadItems(1);
        atMostABadItemsUnderReduced();
        onlyTheSampleCounts(0);
        onlyTheSampleCounts(1);
        onlyTheSampleCounts(2);
        Check.end();
    }

    private static InspectionOffice office(int letter, int quality) {
        InspectionOffice office = new InspectionOffice();
        office.setPlan(Letters.level(letter), quality);
        return office;
    }

    /** Lots that go before, so that the next one, of order 20, is inspected so. */
    private static InspectionOffice officeUnder(int letter, int quality, int state) {
        InspectionOffice office = office(letter, quality);
        Row.record(office, state == 0 ? "" : state == 1 ? "xx" : "oooooooooo");
        office.setWays(false, state == 2, 0);
        Check.due("inspection", state, office.state());
        return office;
    }

    /** "0 to 2, 1 at first" and "0 to 3, 1 at first". */
    private static void levelAndQualityAre1AtFirst() {
        InspectionOffice office = new InspectionOffice();
        Check.due("level 1", 6, office.letter(501));
        Check.due("quality 1", 2, office.accepting(501, 0));
    }

    private static void levelsFrom0To2() {
        InspectionOffice office = new InspectionOffice();
        Check.dueIllegalArgument("level -1", () -> office.setPlan(-1, 0));
        Check.due("level 1 stays", 6, office.letter(501));
        for (int level = 0; level <= 2; level++) {
            office.setPlan(level, 0);
            Check.due("level " + level, 5 + level, office.letter(501));
        }
        Check.dueIllegalArgument("level 3", () -> office.setPlan(3, 0));
        Check.due("level 2 stays", 7, office.letter(501));
    }

    private static void qualitiesFrom0To3() {
        InspectionOffice office = new InspectionOffice();
        Check.dueIllegalArgument("quality -1", () -> office.setPlan(2, -1));
        Check.due("quality 1 stays", 2, office.accepting(501, 0));
        int[] accepting = {1, 3, 6, 8};
        for (int quality = 0; quality <= 3; quality++) {
            office.setPlan(2, quality);
            Check.due("quality " + quality, accepting[quality], office.accepting(501, 0));
        }
        Check.dueIllegalArgument("quality 4", () -> office.setPlan(2, 4));
        Check.due("quality 3 stays", 8, office.accepting(501, 0));
    }

    /** "that counts for all lots": those there are already, and those that come. */
    private static void setPlanCountsForAllLots() {
        InspectionOffice office = new InspectionOffice();
        office.record(0, 501, Row.badUpTo(50, 9));
        office.record(199, 501, Row.badUpTo(50, 8));
        office.setPlan(2, 3);
        Row.dueLot("nine of 50", office, 0, 0, 50, 9);
        Row.dueLot("eight of 50", office, 199, 1, 50, 8);
        office.setPlan(0, 0);
        Row.dueLot("none of 20", office, 0, 1, 20, 0);
        Row.dueLot("none of 20", office, 199, 1, 20, 0);
        office.record(100, 501, 1);
        Row.dueLot("one of 20", office, 100, 0, 20, 1);
    }

    private static void dueLetters(int level, String letters) {
        int[] sizes = {2, 3, 4, 5, 7, 8, 9, 14, 15, 16, 49, 50, 51, 149, 150, 151, 499, 500, 501,
            4999, 5000};
        InspectionOffice office = new InspectionOffice();
        office.setPlan(level, 1);
        Check.due("as many letters as sizes", sizes.length, letters.length());
        for (int at = 0; at < sizes.length; at++) {
            Check.due("level " + level + " letter of " + sizes[at], letters.charAt(at) - '0',
                    office.letter(sizes[at]));
        }
    }

    /** "0 up to the size 8, 1 up to 15, 2 up to 50, 3 up to 150, 4 up to 500, and 5 above". */
    private static void classesEndAtTheirLastSizes() {
        dueLetters(0, "000000111222333444555");
        dueLetters(1, "011111222333444555666");
        dueLetters(2, "011222333444555666777");
    }

    /** "if the sample size would be greater than the lot". */
    private static void anEqualSampleIsNotGreater() {
        InspectionOffice office = new InspectionOffice();
        Check.due("3 of 2 is greater", 2, office.sample(2, 0));
        Check.due("3 of 3 is equal", 3, office.sample(3, 0));
        Check.due("3 of 4 is less", 3, office.sample(4, 0));
        office.setPlan(2, 1);
        Check.due("5 of 4 is greater", 3, office.sample(4, 0));
        Check.due("5 of 5 is equal", 5, office.sample(5, 0));
        Check.due("5 of 6 is less", 5, office.sample(6, 0));
        office.setPlan(0, 1);
        Check.due("2 of 2 is equal", 2, office.sample(2, 0));
    }

    /** "the next lower letter is taken, and so on". */
    private static void theNextLowerLetterAndSoOn() {
        InspectionOffice office = new InspectionOffice();
        office.setPlan(2, 1);
        Check.due("two lower", 0, office.letter(2));
        Check.due("one lower", 1, office.letter(3));
        Check.due("one lower", 1, office.letter(4));
        Check.due("none lower", 2, office.letter(5));
        for (int size = 2; size <= 5; size++) {
            office.record(size, size, 0);
            Check.due("inspected of " + size, size == 4 ? 3 : size, office.inspected(size));
        }
    }

    /** "There are the letters 0 to 7, with sample sizes 2, 3, 5, 8, 13, 20, 32 and 50." */
    private static void theLowestAndTheHighestLetter() {
        int[] samples = {2, 3, 5, 8, 13, 20, 32, 50};
        for (int letter = 0; letter <= 7; letter++) {
            InspectionOffice office = office(letter, 1);
            int size = Letters.size(letter);
            Check.due("letter of " + size, letter, office.letter(size));
            Check.due("its sample", samples[letter], office.sample(size, 0));
            office.record(0, size, 0);
            Check.due("inspected by it", samples[letter], office.inspected(0));
        }
    }

    private static void sizesFrom2To5000() {
        InspectionOffice office = new InspectionOffice();
        for (int size : new int[] {1, 5001}) {
            Check.dueIllegalArgument("letter of " + size, () -> office.letter(size));
            for (int state = 0; state <= 2; state++) {
                int under = state;
                Check.dueIllegalArgument("sample of " + size, () -> office.sample(size, under));
                Check.dueIllegalArgument("accepting of " + size,
                        () -> office.accepting(size, under));
            }
        }
        int[][] due = {{2, 0, 2, 0}, {3, 1, 3, 0}, {4999, 6, 32, 2}, {5000, 6, 32, 2}};
        for (int[] row : due) {
            Check.due("letter of " + row[0], row[1], office.letter(row[0]));
            Check.due("sample of " + row[0], row[2], office.sample(row[0], 0));
            Check.due("accepting of " + row[0], row[3], office.accepting(row[0], 0));
        }
    }

    private static void statesFrom0To2() {
        InspectionOffice office = new InspectionOffice();
        for (int state : new int[] {-1, 3}) {
            Check.dueIllegalArgument("sample under " + state, () -> office.sample(5000, state));
            Check.dueIllegalArgument("accepting under " + state,
                    () -> office.accepting(5000, state));
        }
        int[] samples = {32, 32, 13};
        int[] accepting = {2, 1, 1};
        for (int state = 0; state <= 2; state++) {
            Check.due("sample under " + state, samples[state], office.sample(5000, state));
            Check.due("accepting under " + state, accepting[state],
                    office.accepting(5000, state));
        }
    }

    /** "a = n * (2 * quality + 1) / 40, rounded down": 39 / 40 is 0, 40 / 40 is 1. */
    private static void acceptingNumbersAreRoundedDown() {
        Check.due("13 * 3 / 40", 0, office(4, 1).accepting(Letters.size(4), 0));
        Check.due("8 * 5 / 40", 1, office(3, 2).accepting(Letters.size(3), 0));
        Check.due("32 * 5 / 40", 4, office(6, 2).accepting(Letters.size(6), 0));
        for (int letter = 0; letter <= 7; letter++) {
            for (int quality = 0; quality <= 3; quality++) {
                Check.due("letter " + letter + " quality " + quality,
                        Letters.accepting(letter, quality, 0),
                        office(letter, quality).accepting(Letters.size(letter), 0));
            }
        }
    }

    /** "a is 1 less, but not below 0" under tightened, and under reduced "as for the lot". */
    private static void oneLessButNotBelow0() {
        Check.due("1 less than 0", 0, office(4, 1).accepting(Letters.size(4), 1));
        Check.due("1 less than 1", 0, office(5, 1).accepting(Letters.size(5), 1));
        Check.due("1 less than 2", 1, office(6, 1).accepting(Letters.size(6), 1));
        for (int letter = 0; letter <= 7; letter++) {
            for (int quality = 0; quality <= 3; quality++) {
                for (int state = 1; state <= 2; state++) {
                    Check.due("letter " + letter + " quality " + quality + " under " + state,
                            Letters.accepting(letter, quality, state),
                            office(letter, quality).accepting(Letters.size(letter), state));
                }
            }
        }
    }

    /** "n is that of the letter 2 lower (of the letter 0, if there is none)". */
    private static void reducedTakesTheLetter2Lower() {
        int[] samples = {2, 2, 2, 3, 5, 8, 13, 20};
        for (int letter = 0; letter <= 7; letter++) {
            InspectionOffice office = office(letter, 1);
            int size = Letters.size(letter);
            Check.due("reduced sample " + letter, samples[letter], office.sample(size, 2));
            Check.due("tightened sample " + letter, office.sample(size, 0),
                    office.sample(size, 1));
        }
        InspectionOffice office = office(7, 1);
        Check.due("2 lower than a lower letter", 2, office.sample(4, 2));
    }

    /** "a lot with at most a bad items in it is accepted, otherwise it is refused". */
    private static void atMostABadItems(int state) {
        for (int letter = 0; letter <= 7; letter++) {
            for (int quality = 0; quality <= 3; quality++) {
                InspectionOffice office = officeUnder(letter, quality, state);
                int n = Letters.sample(letter, state);
                int a = Letters.accepting(letter, quality, state);
                String what = "letter " + letter + " quality " + quality + " under " + state;
                office.record(20, Letters.size(letter), 0);
                Row.dueLot(what, office, 20, 1, n, 0);
                office.correct(20, Row.badUpTo(n, a));
                Row.dueLot(what, office, 20, 1, n, a);
                office.correct(20, Row.badUpTo(n, a + 1));
                Row.dueLot(what, office, 20, 0, n, a + 1);
                office.correct(20, Row.ALL);
                Row.dueLot(what, office, 20, 0, n, n);
            }
        }
    }

    /** "a lot with a + 1 bad items is accepted, too, but ends reduced inspection". */
    private static void atMostABadItemsUnderReduced() {
        for (int letter = 0; letter <= 7; letter++) {
            for (int quality = 0; quality <= 3; quality++) {
                InspectionOffice office = officeUnder(letter, quality, 2);
                int n = Letters.sample(letter, 2);
                int a = Letters.accepting(letter, quality, 2);
                office.record(20, Letters.size(letter), Row.badUpTo(n, a));
                dueUnderReduced(office, letter, 1, a, 2);
                office.correct(20, Row.badUpTo(n, a + 1));
                dueUnderReduced(office, letter, 1, a + 1, 0);
                office.correct(20, Row.badUpTo(n, a + 2));
                dueUnderReduced(office, letter, 0, a + 2, 0);
                office.correct(20, 0);
                dueUnderReduced(office, letter, 1, 0, 2);
            }
        }
    }

    private static void dueUnderReduced(InspectionOffice office, int letter, int verdict, int bad,
            int behind) {
        String what = "reduced letter " + letter + " with " + bad;
        Row.dueLot(what, office, 20, verdict, Letters.sample(letter, 2), bad);
        Check.due(what + ": stateAt", 2, office.stateAt(20));
        Check.due(what + ": behind it", behind, office.state());
    }

    /** The last item of the sample counts, the one behind it does not. */
    private static void onlyTheSampleCounts(int state) {
        for (int letter = 0; letter <= 7; letter++) {
            InspectionOffice office = officeUnder(letter, 1, state);
            int n = Letters.sample(letter, state);
            office.record(20, Letters.size(letter), 1L << (n - 1));
            Check.due("the last item of " + n, 1, office.badIn(20));
            office.correct(20, Row.ALL ^ Row.bad(n));
            Check.due("all items behind " + n, 0, office.badIn(20));
            Check.due("accepted", 1, office.verdict(20));
        }
    }
}
