/** What all test classes share: the answers' names, far-off numbers, what is due. */
abstract class Tests {
    static final int BAD = -1, STATE = -2, FULL = -3, NONE = -4;
    static final int LOW = Integer.MIN_VALUE, HIGH = Integer.MAX_VALUE;
    static final String[] KINDS = {"plain", "young", "old", "hermit"};
    static final String[] SORTS = {"gaol", "fine", "lash", "stocks"};

    static void due(long want, long got) {
        Due.due(want, got);
    }

    static JudgeFirst told(String text) {
        return Due.told(text);
    }

    /** Numbers outside of bounds: those beside them, those that fewer bits would bring back into them, the farthest. */
    static int[] beyond(int low, int high) {
        return new int[] {low - 1, low - 2, high + 1, high + 2, low - 256, low + 256, low - 65536, low + 65536,
            high - 256, high + 256, high - 65536, high + 65536, LOW, LOW + low, LOW + high, HIGH};
    }

    static String blanks(int many) {
        return " ".repeat(many);
    }

    /** A TENTH, from a table of the document's words: of 1 to 10, 11 to 20 and so on. */
    static int tenth(int kind, int n) {
        int[][] table = {{1, 2, 3, 4, 5, 6}, {1, 1, 2, 3, 4, 5}, {1, 1, 2, 2, 3, 3}, {2, 2, 4, 4, 6, 6}};
        return table[kind][(n - 1) / 10];
    }
}
