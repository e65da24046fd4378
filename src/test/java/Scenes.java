/** Objects as the tests begin from; each is made anew, as an object has 512 calls only. */
final class Scenes {
    interface Scene {
        CommitLog make();
    }

    private Scenes() {
    }

    /** The i-th of n blocks, from the lowest on; all 24 if n is 24, and the last block always. */
    static int blockOf(int n, int i) {
        return (i * 24 + 23) / n;
    }

    /** n DIRTY blocks with bytes in their first and last place, the highest block written first. */
    static CommitLog dirty(int n) {
        CommitLog x = new CommitLog();
        writeBlocks(x, n, 100);
        return x;
    }

    static void writeBlocks(CommitLog x, int n, int base) {
        for (int i = n - 1; i >= 0; i--) {
            int block = blockOf(n, i);
            x.write(block, 15, base + block);
            x.write(block, 0, base + block + 1);
        }
    }

    /** Power went in the COMMIT of dirty(n), at that share. */
    static CommitLog gone(int n, int share) {
        CommitLog x = dirty(n);
        x.cut(1, share);
        x.commit();
        return x;
    }

    /** How many of the blocks of dirty(n) are on the disk; the first come first, each whole or not at all. */
    static int onDisk(Due due, String when, CommitLog x, int n) {
        int came = 0;
        for (int i = 0; i < n; i++) {
            int block = blockOf(n, i);
            boolean here = x.disk(block, 15) == 100 + block;
            due.is(when + ": first place of block " + block, x.disk(block, 0), here ? 101 + block : 0);
            due.is(when + ": last place of block " + block, x.disk(block, 15), here ? 100 + block : 0);
            due.no(when + ": block " + block + " before an earlier one", here && came < i);
            came += here ? 1 : 0;
        }
        return came;
    }

    /** Power is on; something is on the disk, two blocks are DIRTY, and a cut is told. */
    static CommitLog onWithAll() {
        CommitLog x = new CommitLog();
        writeBlocks(x, 5, 100);
        x.commit();
        x.write(0, 1, 7);
        x.write(23, 14, 8);
        x.cut(2, 750);
        return x;
    }

    /** The same, and power went without a MARK. */
    static CommitLog offWithoutMark() {
        CommitLog x = onWithAll();
        x.cut(1, 499);
        x.commit();
        return x;
    }

    /** The same, and power went with the MARK, one of two blocks being on the disk. */
    static CommitLog offWithMark() {
        CommitLog x = onWithAll();
        x.cut(1, 750);
        x.commit();
        return x;
    }

    /** Power went with the MARK, and again while the log was made good. */
    static CommitLog offAfterStart() {
        CommitLog x = gone(8, 600);
        x.start(400);
        return x;
    }

    /** Power came again after a COMMIT without MARK, whose log still holds what never came to the disk. */
    static CommitLog onAfterLoss() {
        CommitLog x = gone(24, 499);
        x.start(1000);
        return x;
    }

    /** A log was made good; a write over it and a cut came after. */
    static CommitLog onAfterMark() {
        CommitLog x = gone(8, 600);
        x.start(1000);
        x.write(2, 15, 1);
        x.cut(1, 700);
        return x;
    }

    static Scene[] on() {
        return new Scene[] {CommitLog::new, Scenes::onWithAll, () -> dirty(24), Scenes::onAfterLoss,
            Scenes::onAfterMark};
    }

    static Scene[] off() {
        return new Scene[] {Scenes::offWithoutMark, Scenes::offWithMark, Scenes::offAfterStart, () -> gone(0, 0),
            () -> gone(0, 500), () -> gone(24, 499), () -> gone(24, 999)};
    }
}
