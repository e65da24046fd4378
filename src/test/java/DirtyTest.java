/** Promise 5, and the words on DIRTY. */
public final class DirtyTest {
    private static final Due due = new Due();

    public static void main(String[] args) {
        oneByteMakesItsBlockAloneDirty();
        aWriteOfTheSameValueCounts();
        aRefusedWriteDoesNotCount();
        notAfterCommit();
        notAfterRevert();
        notAfterPowerCame();
        falseIfThereIsNoSuchBlock();
        falseIfPowerIsOff();
        dirtyChangesNothing();
        due.end();
    }

    /** "DIRTY if a byte of it was written": its first or its last byte, of any block. */
    private static void oneByteMakesItsBlockAloneDirty() {
        for (int block = 0; block < Edges.BLOCKS; block++) {
            for (int place = 0; place < Edges.PLACES; place += 15) {
                CommitLog x = new CommitLog();
                x.write(block, place, 1);
                onlyDirty(x, block, "write(" + block + ", " + place + ", 1)");
            }
        }
    }

    /** "was written", not: is another than before. */
    private static void aWriteOfTheSameValueCounts() {
        CommitLog x = new CommitLog();
        x.write(4, 2, 0);
        due.yes("a 0 over a 0", x.dirty(4));
        x.write(5, 2, 9);
        x.write(5, 2, 0);
        due.yes("written there and back", x.dirty(5));
        x.commit();
        due.is("both are of the COMMIT", x.state(2), 2);
    }

    private static void aRefusedWriteDoesNotCount() {
        CommitLog x = new CommitLog();
        for (int place : Edges.NO_PLACES) {
            x.write(3, place, 1);
        }
        for (int block : Edges.NO_BLOCKS) {
            x.write(block, 3, 1);
        }
        onlyDirty(x, -1, "refused writes");
        x.commit();
        due.is("none is of the COMMIT", x.state(2), 0);
    }

    /** "since the latest of: COMMIT" */
    private static void notAfterCommit() {
        CommitLog x = Scenes.dirty(24);
        due.yes("before", x.dirty(0) && x.dirty(23));
        x.commit();
        onlyDirty(x, -1, "commit");
        x.write(7, 7, 7);
        onlyDirty(x, 7, "a write after commit");
    }

    /** "since the latest of: .. revert()" */
    private static void notAfterRevert() {
        CommitLog x = Scenes.dirty(24);
        due.yes("before", x.dirty(0) && x.dirty(23));
        x.revert();
        onlyDirty(x, -1, "revert");
        x.write(8, 7, 7);
        onlyDirty(x, 8, "a write after revert");
    }

    /** "since the latest of: .. power coming" */
    private static void notAfterPowerCame() {
        int[] shares = {0, 499, 500, 999};
        for (int share : shares) {
            CommitLog x = Scenes.gone(24, share);
            x.start(1000);
            onlyDirty(x, -1, "power coming after share " + share);
            x.write(9, 7, 7);
            onlyDirty(x, 9, "a write after power came");
        }
    }

    /** "false if .. there is none such" */
    private static void falseIfThereIsNoSuchBlock() {
        for (int block : Edges.NO_BLOCKS) {
            due.no("dirty(" + block + ") of a new object", new CommitLog().dirty(block));
            due.no("dirty(" + block + ") when all are DIRTY", Scenes.dirty(24).dirty(block));
            due.no("dirty(" + block + ") when off", Scenes.gone(24, 0).dirty(block));
        }
    }

    /** "false if power is off" */
    private static void falseIfPowerIsOff() {
        int[] shares = {0, 499, 500, 999};
        for (int share : shares) {
            CommitLog x = Scenes.gone(24, share);
            onlyDirty(x, -1, "off at share " + share);
            x.write(3, 3, 3);
            onlyDirty(x, -1, "a write when off");
            x.start(999);
            onlyDirty(x, -1, "power came and went");
        }
    }

    private static void dirtyChangesNothing() {
        Refused.changesNothing(due, "dirty(24)", Scenes.on(), 0, x -> Refused.bit(x.dirty(24)));
        Refused.changesNothing(due, "dirty(23) when off", Scenes.off(), 0, x -> Refused.bit(x.dirty(23)));
    }

    private static void onlyDirty(CommitLog x, int only, String after) {
        for (int block = 0; block < Edges.BLOCKS; block++) {
            due.is("dirty(" + block + ") after " + after, Refused.bit(x.dirty(block)), block == only ? 1 : 0);
        }
    }
}
