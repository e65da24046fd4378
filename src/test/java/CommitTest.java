/** Promise 6, and the words on a COMMIT that power outlives. */
public final class CommitTest {
    private static final Due due = new Due();

    public static void main(String[] args) {
        everyCountOfBlocks();
        noDirtyBlock();
        allBlocks();
        asTheyAreAtWork();
        theMarkGoes();
        falseIfPowerGoes();
        falseAndNothingHappensIfItIsOff();
        due.end();
    }

    /** "whether power stays on": it does, and "each to the DISK". */
    private static void everyCountOfBlocks() {
        for (int n = 0; n <= Edges.BLOCKS; n++) {
            CommitLog x = Scenes.dirty(n);
            due.yes("commit of " + n, x.commit());
            due.is("on the disk", Scenes.onDisk(due, "commit of " + n, x, n), n);
            due.is("state(2)", x.state(2), n);
            for (int i = 0; i < n; i++) {
                int block = Scenes.blockOf(n, i);
                due.is("read after the COMMIT", x.read(block, 15), 100 + block);
                due.no("dirty after the COMMIT", x.dirty(block));
            }
        }
    }

    /** "the DIRTY blocks .. n of them": none. */
    private static void noDirtyBlock() {
        CommitLog x = new CommitLog();
        due.yes("commit of a new object", x.commit());
        due.is("state(2)", x.state(2), 0);
        x.write(3, 3, 3);
        due.yes("commit", x.commit());
        due.yes("commit of none", x.commit());
        due.is("state(2) of none", x.state(2), 0);
        due.is("disk stays", x.disk(3, 3), 3);
        due.is("read stays", x.read(3, 3), 3);
        x.write(3, 3, 4);
        x.revert();
        due.yes("commit after revert", x.commit());
        due.is("state(2) after revert", x.state(2), 0);
        due.is("disk after revert", x.disk(3, 3), 3);
    }

    /** "the DIRTY blocks .. n of them": all 24, one after another. */
    private static void allBlocks() {
        CommitLog x = new CommitLog();
        for (int round = 1; round <= 4; round++) {
            for (int block = 0; block < Edges.BLOCKS; block++) {
                x.write(block, block % 16, 10 * round + block);
            }
            due.yes("commit of all", x.commit());
            due.is("state(2)", x.state(2), 24);
            for (int block = 0; block < Edges.BLOCKS; block++) {
                due.is("disk of block " + block, x.disk(block, block % 16), 10 * round + block);
            }
        }
    }

    /** "as they are at work": with the latest of each byte, and the bytes that were not written too. */
    private static void asTheyAreAtWork() {
        CommitLog x = new CommitLog();
        for (int place = 0; place < Edges.PLACES; place++) {
            x.write(11, place, 200 + place);
        }
        x.commit();
        x.write(11, 5, 1);
        x.write(11, 5, 2);
        due.yes("commit", x.commit());
        due.is("one block", x.state(2), 1);
        for (int place = 0; place < Edges.PLACES; place++) {
            due.is("disk of place " + place, x.disk(11, place), place == 5 ? 2 : 200 + place);
        }
    }

    /** "then the MARK goes" */
    private static void theMarkGoes() {
        for (int n : Edges.COUNTS) {
            CommitLog x = Scenes.dirty(n);
            x.commit();
            due.is("MARK after a commit of " + n, x.state(1), 0);
            due.is("power after a commit of " + n, x.state(0), 1);
        }
    }

    /** "whether power stays on": it goes, at any share and count. */
    private static void falseIfPowerGoes() {
        for (int n : Edges.COUNTS) {
            for (int share : Edges.SHARES_THAT_GO) {
                CommitLog x = Scenes.dirty(n);
                x.cut(1, share);
                due.no("commit of " + n + " at " + share, x.commit());
                due.is("power after a commit of " + n + " at " + share, x.state(0), 0);
            }
        }
    }

    /** "false, and nothing happens, if it is off" */
    private static void falseAndNothingHappensIfItIsOff() {
        Refused.changesNothing(due, "commit when off", Scenes.off(), 0, x -> Refused.bit(x.commit()));
    }
}
