/** "An object is used for at most 512 calls after it has been made": the 512th is answered as any other. */
public final class CallsTest {
    private static final Due due = new Due();
    private static final int CALLS = 512;

    public static void main(String[] args) {
        theLastWrite();
        theLastRead();
        theLastDisk();
        theLastDirty();
        theLastCommit();
        theLastRevert();
        theLastCut();
        theLastStart();
        theLastState();
        powerComesAndGoesTillTheEnd();
        laterCallsEndToo();
        due.end();
    }

    private static void theLastWrite() {
        CommitLog x = new CommitLog();
        writes(x, CALLS - 1);
        due.yes("the last write", x.write(0, 0, 1));
    }

    private static void theLastRead() {
        CommitLog x = new CommitLog();
        writes(x, CALLS - 1);
        due.is("the last read", x.read((CALLS - 2) % 24, 3), (CALLS - 2) & 255);
    }

    private static void theLastDisk() {
        CommitLog x = new CommitLog();
        writes(x, CALLS - 2);
        x.commit();
        due.is("the last disk", x.disk((CALLS - 3) % 24, 3), (CALLS - 3) & 255);
    }

    private static void theLastDirty() {
        CommitLog x = new CommitLog();
        writes(x, CALLS - 1);
        due.yes("the last dirty", x.dirty(0));
    }

    private static void theLastCommit() {
        CommitLog x = new CommitLog();
        writes(x, CALLS - 2);
        x.cut(1, 999);
        due.no("the last commit", x.commit());
    }

    private static void theLastRevert() {
        CommitLog x = new CommitLog();
        writes(x, CALLS - 2);
        due.yes("a revert", x.revert());
        due.yes("the last revert", x.revert());
    }

    private static void theLastCut() {
        CommitLog x = new CommitLog();
        for (int i = 1; i < CALLS; i++) {
            due.yes("cut", x.cut(1 + i % 1000, i));
        }
        due.yes("the last cut", x.cut(1000, 999));
    }

    private static void theLastStart() {
        CommitLog x = new CommitLog();
        x.write(0, 0, 1);
        x.cut(1, 500);
        x.commit();
        for (int i = 4; i < CALLS; i++) {
            due.no("start(" + i + ")", x.start(i));
        }
        due.yes("the last start", x.start(1000));
    }

    private static void theLastState() {
        CommitLog x = new CommitLog();
        writes(x, CALLS - 2);
        x.commit();
        due.is("the last state", x.state(2), 24);
    }

    /** Four calls a round: each round's byte is lost or made good by what its share asks. */
    private static void powerComesAndGoesTillTheEnd() {
        CommitLog x = new CommitLog();
        int want = 0;
        for (int round = 1; round < CALLS / 4; round++) {
            int share = round * 397 % 1000;
            due.yes("write in round " + round, x.write(23, 15, round));
            due.yes("cut in round " + round, x.cut(1, share));
            due.no("commit in round " + round, x.commit());
            due.yes("start in round " + round, x.start(1000));
            want = share < 500 ? want : round;
        }
        due.is("disk at the end", x.disk(23, 15), want);
        due.is("read at the end", x.read(23, 15), want);
        due.is("power at the end", x.state(0), 1);
        due.is("MARK at the end", x.state(1), 0);
    }

    /** What later calls answer is free, but none may throw. */
    private static void laterCallsEndToo() {
        CommitLog x = new CommitLog();
        for (int i = 0; i < 4 * CALLS; i++) {
            x.write(i % 26 - 1, i % 18 - 1, i);
            x.read(i % 26 - 1, i % 18 - 1);
            x.disk(i % 26 - 1, i % 18 - 1);
            x.dirty(i % 26 - 1);
            x.cut(i % 3, i % 1100);
            x.commit();
            x.start(i % 2 == 0 ? 1000 : i % 1000);
            x.revert();
            x.state(i % 5 - 1);
        }
        due.yes("the calls have ended", true);
    }

    private static void writes(CommitLog x, int count) {
        for (int i = 0; i < count; i++) {
            due.yes("write " + i, x.write(i % 24, 3, i));
        }
    }
}
