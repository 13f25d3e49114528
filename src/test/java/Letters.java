/** The plans of the document, written out letter by letter. */
final class Letters {
    /** A lot of this size, under this level, has the letter of the row. */
    private static final int[][] SIZE_AND_LEVEL = {
        {2, 0}, {9, 0}, {16, 0}, {51, 0}, {151, 0}, {501, 0}, {501, 1}, {501, 2}};
    private static final int[] SAMPLE = {2, 3, 5, 8, 13, 20, 32, 50};
    private static final int[] REDUCED_SAMPLE = {2, 2, 2, 3, 5, 8, 13, 20};
    private static final int[] FIRST_OF_TWO = {0, 0, 4, 6, 9, 14, 22, 34};
    private static final int[] BOTH_OF_TWO = {0, 0, 8, 12, 18, 28, 44, 50};
    private static final int[][] ACCEPTING = {
        {0, 0, 0, 0}, {0, 0, 0, 0}, {0, 0, 0, 0}, {0, 0, 1, 1},
        {0, 0, 1, 2}, {0, 1, 2, 3}, {0, 2, 4, 5}, {1, 3, 6, 8}};
    private static final int[][] ONE_LESS = {
        {0, 0, 0, 0}, {0, 0, 0, 0}, {0, 0, 0, 0}, {0, 0, 0, 0},
        {0, 0, 0, 1}, {0, 0, 1, 2}, {0, 1, 3, 4}, {0, 2, 5, 7}};

    private Letters() {
    }

    static int size(int letter) {
        return SIZE_AND_LEVEL[letter][0];
    }

    static int level(int letter) {
        return SIZE_AND_LEVEL[letter][1];
    }

    static int sample(int letter, int state) {
        return state == 2 ? REDUCED_SAMPLE[letter] : SAMPLE[letter];
    }

    static int accepting(int letter, int quality, int state) {
        return state == 0 ? ACCEPTING[letter][quality] : ONE_LESS[letter][quality];
    }

    /** The first sample of a double plan, from the letter 2 upwards. */
    static int first(int letter) {
        return FIRST_OF_TWO[letter];
    }

    /** Both samples of a double plan together, from the letter 2 upwards, if the lot is great. */
    static int both(int letter) {
        return BOTH_OF_TWO[letter];
    }
}
