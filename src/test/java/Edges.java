/** The numbers just outside what the document allows, and the ends of an int, where an index would wrap around. */
final class Edges {
    static final int BLOCKS = 24;
    static final int PLACES = 16;
    static final int CELLS = BLOCKS * PLACES;

    /** 1 << 28 times 16 places wraps around to cell 0. */
    static final int[] NO_BLOCKS = {-1, 24, 25, 1 << 28, -(1 << 28), Integer.MIN_VALUE, Integer.MAX_VALUE};
    static final int[] NO_PLACES = {-1, 16, 17, -16, 32, Integer.MIN_VALUE, Integer.MAX_VALUE};
    static final int[] NO_COMMIT_AHEAD = {0, -1, 1001, 1002, Integer.MIN_VALUE, Integer.MAX_VALUE};
    static final int[] NO_CUT_SHARE = {-1, 1000, 1001, Integer.MIN_VALUE, Integer.MAX_VALUE};
    /** -(1 << 27) times 24 blocks wraps around to a large count. */
    static final int[] NO_START_SHARE = {-1, 1001, 1002, 1 << 27, -(1 << 27), Integer.MIN_VALUE, Integer.MAX_VALUE};
    static final int[] NO_WHAT = {-1, 3, 4, Integer.MIN_VALUE, Integer.MAX_VALUE};

    static final int[] SHARES_WITHOUT_MARK = {0, 1, 249, 250, 498, 499};
    static final int[] SHARES_WITH_MARK = {500, 501, 749, 750, 998, 999};
    static final int[] SHARES_THAT_GO = {0, 1, 499, 500, 501, 998, 999};
    static final int[] COUNTS = {0, 1, 2, 3, 5, 8, 12, 23, 24};

    private Edges() {
    }
}
