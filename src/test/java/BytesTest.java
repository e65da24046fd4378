/** Promises 1 to 5 and 7: a new object, write, read, disk, dirty, revert. */
public final class BytesTest {
    private static final int[] NO_BLOCKS = {-1, 24, 25, Integer.MIN_VALUE, Integer.MAX_VALUE, 1 << 28};
    private static final int[] NO_PLACES = {-1, 16, 17, Integer.MIN_VALUE, Integer.MAX_VALUE};
    private static final Due due = new Due();

    public static void main(String[] args) {
        newObject();
        writeKeepsLowestEightBits();
        everyByteIsItsOwn();
        wrongBlocksAndPlaces();
        dirtyIsAboutWritesNotValues();
        revertTakesTheDisk();
        powerOff();
        objectsAreApart();
        due.end();
    }

    private static void newObject() {
        CommitLog x = new CommitLog();
        CommitLog y = new CommitLog();
        for (int block = 0; block < 24; block++) {
            due.no("new dirty", x.dirty(block));
            for (int place = 0; place < 16; place++) {
                due.is("new read", x.read(block, place), 0);
                due.is("new disk", y.disk(block, place), 0);
            }
        }
        due.is("new state(0)", x.state(0), 1);
        due.is("new state(1)", x.state(1), 0);
        due.is("new state(2)", x.state(2), 0);
        due.is("NONE", CommitLog.NONE, -1);
    }

    private static void writeKeepsLowestEightBits() {
        CommitLog x = new CommitLog();
        int[][] cases = {{0, 0}, {127, 127}, {128, 128}, {255, 255}, {256, 0}, {300, 44}, {-1, 255}, {-128, 128},
            {-256, 0}, {Integer.MAX_VALUE, 255}, {Integer.MIN_VALUE, 0}};
        int before = 0;
        for (int[] c : cases) {
            due.yes("write " + c[0], x.write(23, 15, c[0]));
            due.is("read of " + c[0], x.read(23, 15), c[1]);
            due.is("disk before commit", x.disk(23, 15), before);
            before = c[1];
            due.yes("commit", x.commit());
            due.is("disk of " + c[0], x.disk(23, 15), c[1]);
        }
    }

    /** Six blocks an object, as an object's calls are bounded. */
    private static void everyByteIsItsOwn() {
        for (int from = 0; from < 384; from += 96) {
            CommitLog x = new CommitLog();
            for (int cell = from; cell < from + 96; cell++) {
                due.yes("write", x.write(cell / 16, cell % 16, cell * 7 + 3));
            }
            for (int cell = from; cell < from + 96; cell++) {
                due.is("read cell " + cell, x.read(cell / 16, cell % 16), (cell * 7 + 3) & 255);
                due.is("disk cell " + cell, x.disk(cell / 16, cell % 16), 0);
            }
            due.yes("commit", x.commit());
            due.is("state(2)", x.state(2), 6);
            for (int cell = from; cell < from + 96; cell++) {
                due.is("committed cell " + cell, x.disk(cell / 16, cell % 16), (cell * 7 + 3) & 255);
            }
        }
    }

    private static void wrongBlocksAndPlaces() {
        CommitLog x = new CommitLog();
        for (int block : NO_BLOCKS) {
            due.no("write block " + block, x.write(block, 0, 1));
            due.is("read block " + block, x.read(block, 0), -1);
            due.is("disk block " + block, x.disk(block, 0), -1);
            due.no("dirty block " + block, x.dirty(block));
        }
        for (int place : NO_PLACES) {
            due.no("write place " + place, x.write(1, place, 1));
            due.is("read place " + place, x.read(1, place), -1);
            due.is("disk place " + place, x.disk(1, place), -1);
        }
        for (int cell = 0; cell < 384; cell++) {
            due.is("untouched", x.read(cell / 16, cell % 16), 0);
        }
        for (int block = 0; block < 24; block++) {
            due.no("refused write makes dirty " + block, x.dirty(block));
        }
    }

    private static void dirtyIsAboutWritesNotValues() {
        CommitLog x = new CommitLog();
        due.yes("write of the same value", x.write(4, 2, 0));
        due.yes("dirty(4)", x.dirty(4));
        due.no("dirty(3)", x.dirty(3));
        due.no("dirty(5)", x.dirty(5));
        due.yes("commit", x.commit());
        due.is("state(2)", x.state(2), 1);
        due.no("dirty after commit", x.dirty(4));
        due.yes("write", x.write(0, 0, 1));
        due.yes("write", x.write(23, 0, 1));
        due.yes("dirty(0)", x.dirty(0));
        due.yes("dirty(23)", x.dirty(23));
        due.yes("revert", x.revert());
        due.no("dirty(0) after revert", x.dirty(0));
        due.no("dirty(23) after revert", x.dirty(23));
    }

    private static void revertTakesTheDisk() {
        CommitLog x = new CommitLog();
        x.write(6, 1, 10);
        x.write(8, 1, 20);
        x.commit();
        x.write(6, 1, 11);
        x.write(7, 1, 30);
        due.yes("revert", x.revert());
        due.is("read(6, 1)", x.read(6, 1), 10);
        due.is("read(7, 1)", x.read(7, 1), 0);
        due.is("read(8, 1)", x.read(8, 1), 20);
        due.is("disk(6, 1)", x.disk(6, 1), 10);
        due.is("state(2) stays", x.state(2), 2);
        due.yes("commit of none", x.commit());
        due.is("state(2) of none", x.state(2), 0);
        due.is("disk(7, 1)", x.disk(7, 1), 0);
        due.yes("revert again", x.revert());
    }

    private static void powerOff() {
        CommitLog x = new CommitLog();
        x.write(2, 3, 9);
        x.commit();
        x.write(2, 3, 10);
        x.write(5, 5, 5);
        x.cut(1, 0);
        due.no("commit", x.commit());
        due.no("write", x.write(2, 3, 1));
        due.is("read", x.read(2, 3), -1);
        due.is("disk", x.disk(2, 3), 9);
        due.is("disk off, wrong block", x.disk(24, 0), -1);
        due.no("dirty", x.dirty(2));
        due.no("revert", x.revert());
        due.yes("start", x.start(1000));
        due.is("read after", x.read(2, 3), 9);
        due.is("read after, lost", x.read(5, 5), 0);
        due.no("dirty(2) after", x.dirty(2));
        due.no("dirty(5) after", x.dirty(5));
    }

    private static void objectsAreApart() {
        CommitLog x = new CommitLog();
        CommitLog y = new CommitLog();
        x.write(0, 0, 1);
        x.cut(1, 999);
        x.commit();
        due.is("other read", y.read(0, 0), 0);
        due.is("other state(0)", y.state(0), 1);
        due.is("other state(1)", y.state(1), 0);
        due.is("other state(2)", y.state(2), 0);
    }
}
