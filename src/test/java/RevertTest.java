/** Promise 7. */
public final class RevertTest {
    private static final Due due = new Due();

    public static void main(String[] args) {
        whatIsAtWorkIsWhatIsOnTheDisk();
        noBlockIsDirty();
        withNothingWritten();
        withAllWritten();
        whatWasCommittedStays();
        theDiskStays();
        itIsNoCommit();
        falseIfPowerIsOff();
        due.end();
    }

    /** "What is at work is what is on the disk .. true" */
    private static void whatIsAtWorkIsWhatIsOnTheDisk() {
        CommitLog x = new CommitLog();
        x.write(6, 1, 10);
        x.write(8, 1, 20);
        x.commit();
        x.write(6, 1, 11);
        x.write(6, 2, 12);
        x.write(7, 1, 30);
        due.yes("revert", x.revert());
        due.is("read(6, 1)", x.read(6, 1), 10);
        due.is("read(6, 2)", x.read(6, 2), 0);
        due.is("read(7, 1)", x.read(7, 1), 0);
        due.is("read(8, 1)", x.read(8, 1), 20);
        due.is("disk(6, 1)", x.disk(6, 1), 10);
    }

    /** "no block is DIRTY" */
    private static void noBlockIsDirty() {
        CommitLog x = Scenes.dirty(24);
        x.revert();
        for (int block = 0; block < Edges.BLOCKS; block++) {
            due.no("dirty(" + block + ")", x.dirty(block));
        }
        due.yes("commit", x.commit());
        due.is("blocks of the COMMIT", x.state(2), 0);
    }

    private static void withNothingWritten() {
        CommitLog x = new CommitLog();
        due.yes("revert of a new object", x.revert());
        due.yes("revert again", x.revert());
        due.is("read", x.read(0, 0), 0);
        x.write(0, 0, 1);
        x.commit();
        due.yes("revert after commit", x.revert());
        due.is("read after commit", x.read(0, 0), 1);
    }

    private static void withAllWritten() {
        CommitLog x = Scenes.dirty(24);
        due.yes("revert", x.revert());
        for (int cell = 0; cell < Edges.CELLS; cell++) {
            due.is("read of cell " + cell, x.read(cell / 16, cell % 16), 0);
        }
    }

    private static void whatWasCommittedStays() {
        CommitLog x = Scenes.dirty(24);
        x.commit();
        Scenes.writeBlocks(x, 24, 7);
        due.yes("revert", x.revert());
        due.is("on the disk", Scenes.onDisk(due, "revert", x, 24), 24);
        for (int block = 0; block < Edges.BLOCKS; block++) {
            due.is("read of block " + block, x.read(block, 15), 100 + block);
            due.is("read of block " + block, x.read(block, 0), 101 + block);
        }
    }

    /** What is at work changes, not what is on the disk. */
    private static void theDiskStays() {
        for (Scenes.Scene scene : Scenes.on()) {
            CommitLog x = scene.make();
            CommitLog y = scene.make();
            due.yes("revert", x.revert());
            for (int cell = 0; cell < Edges.CELLS; cell++) {
                due.is("disk of cell " + cell, x.disk(cell / 16, cell % 16), y.disk(cell / 16, cell % 16));
            }
        }
    }

    /** It takes nothing back of state(2), and of what a cut counts. */
    private static void itIsNoCommit() {
        CommitLog x = Scenes.dirty(3);
        x.commit();
        x.cut(2, 0);
        due.yes("revert", x.revert());
        due.is("state(2)", x.state(2), 3);
        due.yes("revert", x.revert());
        due.yes("first COMMIT", x.commit());
        due.yes("revert", x.revert());
        due.no("second COMMIT", x.commit());
    }

    /** "false if power is off" */
    private static void falseIfPowerIsOff() {
        Refused.changesNothing(due, "revert when off", Scenes.off(), 0, x -> Refused.bit(x.revert()));
    }
}
