/** Promise 1, and the words on BLOCKS. */
public final class NewObjectTest {
    private static final Due due = new Due();

    public static void main(String[] args) {
        allBytesAreZeroAtWork();
        allBytesAreZeroOnTheDisk();
        powerIsOn();
        noMark();
        noBlockIsDirty();
        noCutIsTold();
        theBlocksAndPlacesEndWhereTheyAreSaidTo();
        noneIsMinusOne();
        objectsAreApart();
        due.end();
    }

    /** "All bytes are 0" */
    private static void allBytesAreZeroAtWork() {
        CommitLog x = new CommitLog();
        for (int cell = 0; cell < Edges.CELLS; cell++) {
            due.is("read of cell " + cell, x.read(cell / 16, cell % 16), 0);
        }
    }

    /** "All bytes are 0" */
    private static void allBytesAreZeroOnTheDisk() {
        CommitLog x = new CommitLog();
        for (int cell = 0; cell < Edges.CELLS; cell++) {
            due.is("disk of cell " + cell, x.disk(cell / 16, cell % 16), 0);
        }
    }

    /** "power is on" */
    private static void powerIsOn() {
        CommitLog x = new CommitLog();
        due.is("state(0)", x.state(0), 1);
        due.no("start(1000) when it is on", x.start(1000));
        due.yes("write", x.write(0, 0, 1));
        due.yes("revert", x.revert());
    }

    /** "no MARK" */
    private static void noMark() {
        due.is("state(1)", new CommitLog().state(1), 0);
    }

    /** "DIRTY if a byte of it was written": none was. */
    private static void noBlockIsDirty() {
        CommitLog x = new CommitLog();
        for (int block = 0; block < Edges.BLOCKS; block++) {
            due.no("dirty(" + block + ")", x.dirty(block));
        }
    }

    private static void noCutIsTold() {
        CommitLog x = new CommitLog();
        for (int i = 0; i < 512; i++) {
            due.yes("commit " + i, x.commit());
        }
    }

    /** "BLOCKS are 0 .. 23, of 16 bytes each" */
    private static void theBlocksAndPlacesEndWhereTheyAreSaidTo() {
        CommitLog x = new CommitLog();
        int[][] corners = {{0, 0, 1}, {0, 15, 1}, {23, 0, 1}, {23, 15, 1}, {-1, 0, 0}, {24, 0, 0}, {0, -1, 0},
            {0, 16, 0}, {23, 16, 0}, {24, 15, 0}};
        for (int[] c : corners) {
            String at = "(" + c[0] + ", " + c[1] + ")";
            due.is("write" + at, Refused.bit(x.write(c[0], c[1], 5)), c[2]);
            due.is("read" + at, x.read(c[0], c[1]), c[2] == 1 ? 5 : -1);
            due.is("disk" + at, x.disk(c[0], c[1]), c[2] == 1 ? 0 : -1);
        }
    }

    /** "NONE = -1" */
    private static void noneIsMinusOne() {
        due.is("NONE", CommitLog.NONE, -1);
    }

    private static void objectsAreApart() {
        CommitLog x = new CommitLog();
        CommitLog y = new CommitLog();
        x.write(0, 0, 1);
        x.cut(1, 999);
        x.commit();
        due.is("the other's read", y.read(0, 0), 0);
        due.no("the other's dirty", y.dirty(0));
        for (int what = 0; what < 3; what++) {
            due.is("the other's state(" + what + ")", y.state(what), what == 0 ? 1 : 0);
        }
        due.yes("the other's commit", y.commit());
    }
}
