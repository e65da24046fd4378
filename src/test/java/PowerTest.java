/** Promises 6 and 8 to 10: commit, cut, start, state. */
public final class PowerTest {
    private static final Due due = new Due();

    public static void main(String[] args) {
        commitWithPower();
        commitAtEveryShare();
        startAtEveryShare();
        startGoesFromTheFirstEachTime();
        startWithoutAMark();
        startRefuses();
        onlyTheMarkedCommitComesBack();
        emptyCommitCut();
        cutCountsCommits();
        cutTakesThePlaceOfCut();
        cutRefuses();
        cutIsUsedOnce();
        stateAnswers();
        due.end();
    }

    /** Blocks 1, 4, 7, .. are written, each with its number + 100, at place 15. */
    private static CommitLog withWritten(int n) {
        CommitLog x = new CommitLog();
        for (int i = n - 1; i >= 0; i--) {
            x.write(blockOf(n, i), 15, blockOf(n, i) + 100);
        }
        return x;
    }

    private static int blockOf(int n, int i) {
        return n <= 8 ? 1 + 3 * i : i;
    }

    private static int cameToDisk(CommitLog x, int n, String when) {
        int came = 0;
        boolean gap = false;
        for (int i = 0; i < n; i++) {
            int block = blockOf(n, i);
            boolean here = x.disk(block, 15) == block + 100;
            due.is(when + " disk of block " + block, x.disk(block, 15), here ? block + 100 : 0);
            due.no(when + " a later block before an earlier one", here && gap);
            gap = gap || !here;
            came += here ? 1 : 0;
        }
        return came;
    }

    private static void commitWithPower() {
        for (int n = 0; n <= 24; n++) {
            CommitLog x = withWritten(n);
            due.yes("commit", x.commit());
            due.is("came", cameToDisk(x, n, "n " + n), n);
            due.is("state(0)", x.state(0), 1);
            due.is("state(1)", x.state(1), 0);
            due.is("state(2)", x.state(2), n);
            for (int i = 0; i < n; i++) {
                due.no("dirty", x.dirty(blockOf(n, i)));
                due.is("read", x.read(blockOf(n, i), 15), blockOf(n, i) + 100);
            }
        }
    }

    private static void commitAtEveryShare() {
        int[] counts = {0, 1, 2, 3, 5, 7, 8, 23, 24};
        for (int n : counts) {
            for (int share = 0; share <= 999; share++) {
                String when = "n " + n + " share " + share;
                CommitLog x = withWritten(n);
                due.yes(when + " cut", x.cut(1, share));
                due.no(when + " commit", x.commit());
                due.is(when + " state(0)", x.state(0), 0);
                due.is(when + " state(1)", x.state(1), share >= 500 ? 1 : 0);
                due.is(when + " state(2)", x.state(2), n);
                int want = share < 500 ? 0 : n * (share - 500) / 500;
                due.is(when + " came", cameToDisk(x, n, when), want);
                due.yes(when + " start", x.start(1000));
                due.is(when + " came at start", cameToDisk(x, n, when), share < 500 ? 0 : n);
                due.is(when + " state(1) at start", x.state(1), 0);
                due.is(when + " state(2) at start", x.state(2), n);
            }
        }
    }

    private static void startAtEveryShare() {
        int[] counts = {1, 3, 8, 24};
        for (int n : counts) {
            for (int share = 0; share <= 999; share++) {
                String when = "start n " + n + " share " + share;
                CommitLog x = withWritten(n);
                x.cut(1, 500);
                x.commit();
                due.no(when, x.start(share));
                due.is(when + " came", cameToDisk(x, n, when), n * share / 1000);
                due.is(when + " state(0)", x.state(0), 0);
                due.is(when + " state(1)", x.state(1), 1);
                due.is(when + " read", x.read(0, 0), -1);
            }
        }
    }

    private static void startGoesFromTheFirstEachTime() {
        CommitLog x = withWritten(8);
        x.cut(1, 700);
        due.no("commit", x.commit());
        due.is("at the cut", cameToDisk(x, 8, "cut"), 3);
        due.no("start(250)", x.start(250));
        due.is("a smaller share takes nothing back", cameToDisk(x, 8, "250"), 3);
        due.no("start(500)", x.start(500));
        due.is("a share is of the whole log", cameToDisk(x, 8, "500"), 4);
        due.no("start(500)", x.start(500));
        due.is("shares do not add up", cameToDisk(x, 8, "500"), 4);
        due.no("start(999)", x.start(999));
        due.is("nearly all", cameToDisk(x, 8, "999"), 7);
        due.is("MARK", x.state(1), 1);
        due.yes("start(1000)", x.start(1000));
        due.is("all", cameToDisk(x, 8, "1000"), 8);
        due.is("no MARK", x.state(1), 0);
        due.is("power", x.state(0), 1);
        for (int block = 0; block < 24; block++) {
            due.is("read is disk", x.read(block, 15), x.disk(block, 15));
            due.no("dirty", x.dirty(block));
        }
    }

    private static void startWithoutAMark() {
        CommitLog x = withWritten(8);
        x.cut(1, 499);
        x.commit();
        due.no("start(999)", x.start(999));
        due.is("power", x.state(0), 0);
        due.is("MARK", x.state(1), 0);
        due.is("came", cameToDisk(x, 8, "no mark"), 0);
        due.yes("start(1000)", x.start(1000));
        due.is("came", cameToDisk(x, 8, "no mark"), 0);
        due.is("read", x.read(1, 15), 0);
        due.yes("write", x.write(1, 15, 1));
        due.yes("commit", x.commit());
        due.is("disk", x.disk(1, 15), 1);
    }

    private static void startRefuses() {
        CommitLog x = withWritten(2);
        int[] others = {-1, 1001, Integer.MIN_VALUE, Integer.MAX_VALUE};
        int[] all = {-1, 0, 500, 999, 1000, 1001};
        for (int share : all) {
            due.no("start when on " + share, x.start(share));
            due.is("state(0) when on", x.state(0), 1);
            due.is("read when on", x.read(1, 15), 101);
            due.yes("dirty when on", x.dirty(1));
        }
        x.cut(1, 500);
        x.commit();
        for (int share : others) {
            due.no("start " + share, x.start(share));
            due.is("state(0)", x.state(0), 0);
            due.is("state(1)", x.state(1), 1);
            due.is("came", cameToDisk(x, 2, "other share"), 0);
        }
    }

    private static void onlyTheMarkedCommitComesBack() {
        CommitLog x = new CommitLog();
        for (int block = 0; block < 24; block++) {
            x.write(block, 0, 50 + block);
        }
        due.yes("commit", x.commit());
        x.write(0, 0, 1);
        due.yes("commit", x.commit());
        x.write(20, 0, 2);
        x.cut(1, 250);
        due.no("commit", x.commit());
        due.yes("start", x.start(1000));
        due.is("disk(0, 0)", x.disk(0, 0), 1);
        due.is("disk(20, 0)", x.disk(20, 0), 70);
        x.write(10, 0, 3);
        x.write(10, 1, 4);
        x.cut(1, 500);
        due.no("commit", x.commit());
        due.is("disk(10, 0)", x.disk(10, 0), 60);
        due.yes("start", x.start(1000));
        for (int block = 0; block < 24; block++) {
            int want = block == 0 ? 1 : block == 10 ? 3 : 50 + block;
            due.is("disk " + block, x.disk(block, 0), want);
            due.is("read " + block, x.read(block, 0), want);
        }
        due.is("disk(10, 1)", x.disk(10, 1), 4);
    }

    private static void emptyCommitCut() {
        CommitLog x = new CommitLog();
        x.cut(1, 500);
        due.no("commit of none", x.commit());
        due.is("MARK", x.state(1), 1);
        due.is("state(2)", x.state(2), 0);
        due.no("start(999)", x.start(999));
        due.is("MARK stays", x.state(1), 1);
        due.yes("start(1000)", x.start(1000));
        due.is("MARK goes", x.state(1), 0);
    }

    private static void cutCountsCommits() {
        for (int n = 1; n <= 40; n++) {
            CommitLog x = new CommitLog();
            due.yes("cut", x.cut(n, 999));
            for (int i = 1; i < n; i++) {
                x.write(i % 24, 0, i);
                x.revert();
                due.yes("commit " + i + " of " + n, x.commit());
            }
            due.no("commit " + n, x.commit());
            due.is("power", x.state(0), 0);
        }
    }

    private static void cutTakesThePlaceOfCut() {
        CommitLog x = new CommitLog();
        due.yes("cut(1, 0)", x.cut(1, 0));
        due.yes("cut(3, 500)", x.cut(3, 500));
        due.yes("commit", x.commit());
        due.no("refused cut", x.cut(1, 1000));
        due.no("refused cut", x.cut(0, 0));
        due.yes("commit", x.commit());
        due.no("commit", x.commit());
        due.is("MARK of the later cut", x.state(1), 1);
        CommitLog y = new CommitLog();
        y.cut(2, 500);
        y.cut(1, 0);
        due.no("commit", y.commit());
        due.is("no MARK", y.state(1), 0);
        y.start(1000);
        due.yes("the earlier cut is gone", y.commit());
        due.yes("the earlier cut is gone", y.commit());
    }

    private static void cutRefuses() {
        CommitLog x = new CommitLog();
        int[][] wrong = {{0, 5}, {-1, 5}, {1001, 5}, {Integer.MIN_VALUE, 5}, {Integer.MAX_VALUE, 5}, {1, -1}, {1, 1000},
            {1, 1001}, {1, Integer.MIN_VALUE}, {1, Integer.MAX_VALUE}, {0, 1000}};
        for (int[] w : wrong) {
            due.no("cut(" + w[0] + ", " + w[1] + ")", x.cut(w[0], w[1]));
            due.yes("commit", x.commit());
        }
        due.yes("cut(1000, 999)", x.cut(1000, 999));
        due.yes("cut(1000, 0)", x.cut(1000, 0));
        for (int i = 0; i < 400; i++) {
            due.yes("commit before the 1000th", x.commit());
        }
        x.cut(1, 0);
        x.commit();
        due.no("cut when off", x.cut(1, 0));
        due.yes("start", x.start(1000));
        due.yes("a cut told when off is none", x.commit());
    }

    private static void cutIsUsedOnce() {
        CommitLog x = new CommitLog();
        x.cut(1, 750);
        due.no("commit", x.commit());
        due.no("commit when off", x.commit());
        due.yes("start", x.start(1000));
        for (int i = 0; i < 5; i++) {
            due.yes("commit", x.commit());
        }
    }

    private static void stateAnswers() {
        CommitLog x = withWritten(3);
        x.commit();
        x.write(0, 0, 1);
        due.is("state(2) before the next commit", x.state(2), 3);
        x.cut(1, 0);
        x.commit();
        due.is("state(2) of a commit that power left at once", x.state(2), 1);
        due.no("commit when off", x.commit());
        due.is("state(2) when off", x.state(2), 1);
        int[] others = {-1, 3, 4, Integer.MIN_VALUE, Integer.MAX_VALUE};
        for (int what : others) {
            due.is("state off " + what, x.state(what), -1);
        }
        x.start(1000);
        for (int what : others) {
            due.is("state on " + what, x.state(what), -1);
        }
        due.is("state(2) after power", x.state(2), 1);
    }
}
