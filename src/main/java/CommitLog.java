/** Blocks of bytes whose changes are committed through a log with a mark. */
public final class CommitLog {
    public static final int NONE = -1;

    private static final int BLOCKS = 24;
    private static final int PLACES = 16;
    private static final int CELLS = BLOCKS * PLACES;
    private static final int BYTE_MASK = 255;
    private static final int MOST_COMMITS_AHEAD = 1000;

    // A share of WHOLE stands for power that stays; the document's own shares end below it.
    private static final int WHOLE = 1000;
    private static final int MARK_SHARE = 500;

    private final int[] work;
    private final int[] onDisk;
    // The log's order is that of the blocks' numbers, so each block has its own place there, as on the disk.
    private final int[] logBytes;
    private final boolean[] written;
    private final boolean[] logged;

    private boolean powered;
    private boolean marked;
    private int latestCount;
    private int commitsUntilCut;
    private int cutShare;

    public CommitLog() {
        work = new int[CELLS];
        onDisk = new int[CELLS];
        logBytes = new int[CELLS];
        written = new boolean[BLOCKS];
        logged = new boolean[BLOCKS];
        powered = true;
        marked = false;
        latestCount = 0;
        commitsUntilCut = 0;
        cutShare = 0;
    }

    public boolean write(int block, int place, int v) {
        if (!powered || !isBlock(block) || !isPlace(place)) {
            return false;
        }
        work[block * PLACES + place] = v & BYTE_MASK;
        written[block] = true;
        return true;
    }

    public int read(int block, int place) {
        if (!powered || !isBlock(block) || !isPlace(place)) {
            return NONE;
        }
        return work[block * PLACES + place];
    }

    public int disk(int block, int place) {
        if (!isBlock(block) || !isPlace(place)) {
            return NONE;
        }
        return onDisk[block * PLACES + place];
    }

    public boolean dirty(int block) {
        return powered && isBlock(block) && written[block];
    }

    public boolean commit() {
        if (!powered) {
            return false;
        }
        int share = takeShareOfThisCommit();
        latestCount = countWritten();
        marked = share >= MARK_SHARE;
        bringToLog(marked ? latestCount : latestCount * share / MARK_SHARE);
        clearWritten();
        if (marked) {
            // At WHOLE this is the full count, so a commit that power outlives needs no case of its own.
            bringLogToDisk(latestCount * (share - MARK_SHARE) / (WHOLE - MARK_SHARE));
        }
        powered = share == WHOLE;
        if (powered) {
            marked = false;
        }
        return powered;
    }

    public boolean revert() {
        if (!powered) {
            return false;
        }
        takeWorkFromDisk();
        return true;
    }

    public boolean cut(int n, int share) {
        if (!powered || n < 1 || n > MOST_COMMITS_AHEAD || share < 0 || share >= WHOLE) {
            return false;
        }
        commitsUntilCut = n;
        cutShare = share;
        return true;
    }

    public boolean start(int share) {
        if (powered || share < 0 || share > WHOLE) {
            return false;
        }
        if (marked) {
            bringLogToDisk(latestCount * share / WHOLE);
        }
        if (share < WHOLE) {
            return false;
        }
        marked = false;
        powered = true;
        takeWorkFromDisk();
        return true;
    }

    public int state(int what) {
        switch (what) {
            case 0:
                return powered ? 1 : 0;
            case 1:
                return marked ? 1 : 0;
            case 2:
                return latestCount;
            default:
                return NONE;
        }
    }

    private static boolean isBlock(int block) {
        return block >= 0 && block < BLOCKS;
    }

    private static boolean isPlace(int place) {
        return place >= 0 && place < PLACES;
    }

    private int takeShareOfThisCommit() {
        if (commitsUntilCut == 0) {
            return WHOLE;
        }
        commitsUntilCut--;
        return commitsUntilCut == 0 ? cutShare : WHOLE;
    }

    private int countWritten() {
        int count = 0;
        for (int block = 0; block < BLOCKS; block++) {
            if (written[block]) {
                count++;
            }
        }
        return count;
    }

    private void bringToLog(int most) {
        int came = 0;
        for (int block = 0; block < BLOCKS; block++) {
            logged[block] = written[block] && came < most;
            if (logged[block]) {
                copyBlock(work, logBytes, block);
                came++;
            }
        }
    }

    private void bringLogToDisk(int most) {
        int came = 0;
        for (int block = 0; block < BLOCKS && came < most; block++) {
            if (logged[block]) {
                copyBlock(logBytes, onDisk, block);
                came++;
            }
        }
    }

    private void takeWorkFromDisk() {
        System.arraycopy(onDisk, 0, work, 0, CELLS);
        clearWritten();
    }

    private void clearWritten() {
        for (int block = 0; block < BLOCKS; block++) {
            written[block] = false;
        }
    }

    private static void copyBlock(int[] from, int[] to, int block) {
        System.arraycopy(from, block * PLACES, to, block * PLACES, PLACES);
    }
}
