/** Promise 8. */
public final class CutTest {
    private static final Due due = new Due();

    public static void main(String[] args) {
        inTheNthCommit();
        theFarthestThatAnObjectCanReach();
        atTheShare();
        commitsBeforeDoNotCount();
        onlyCommitsCount();
        inPlaceOfWhatWasToldBefore();
        aRefusedCutIsNotInItsPlace();
        oneTimeOnly();
        theEdgesOfN();
        falseIfNIsNotOneToThousand();
        theEdgesOfTheShare();
        falseIfTheShareIsNotOne();
        falseIfBothAreWrong();
        falseIfPowerIsOff();
        due.end();
    }

    /** "Power goes in the n-th COMMIT from now on" */
    private static void inTheNthCommit() {
        for (int n = 1; n <= 40; n++) {
            CommitLog x = new CommitLog();
            due.yes("cut(" + n + ", 999)", x.cut(n, 999));
            commitsThatStay(x, n - 1, "of " + n);
            due.no("commit " + n, x.commit());
            due.is("power", x.state(0), 0);
        }
    }

    /** 512 calls in all: cut, 510 COMMITs that stay, and the one that goes. */
    private static void theFarthestThatAnObjectCanReach() {
        CommitLog x = new CommitLog();
        due.yes("cut(511, 0)", x.cut(511, 0));
        commitsThatStay(x, 510, "of 511");
        due.no("commit 511", x.commit());
        CommitLog y = new CommitLog();
        due.yes("cut(512, 0)", y.cut(512, 0));
        commitsThatStay(y, 511, "of 512");
    }

    /** "at a SHARE" */
    private static void atTheShare() {
        for (int share = 0; share <= 999; share++) {
            CommitLog x = Scenes.dirty(8);
            due.yes("cut(2, " + share + ")", x.cut(2, share));
            due.yes("first COMMIT", x.commit());
            Scenes.writeBlocks(x, 8, 3);
            due.no("second COMMIT", x.commit());
            int came = share < 500 ? 0 : 8 * (share - 500) / 500;
            for (int i = 0; i < 8; i++) {
                int block = Scenes.blockOf(8, i);
                due.is("disk of block " + block + " at " + share, x.disk(block, 15), block + (i < came ? 3 : 100));
            }
            due.is("MARK at " + share, x.state(1), share < 500 ? 0 : 1);
        }
    }

    /** "from now on" */
    private static void commitsBeforeDoNotCount() {
        CommitLog x = new CommitLog();
        commitsThatStay(x, 5, "before");
        due.yes("cut(2, 0)", x.cut(2, 0));
        commitsThatStay(x, 1, "of 2");
        due.no("commit 2", x.commit());
        x.start(1000);
        commitsThatStay(x, 3, "after power came");
        due.yes("cut(1, 0)", x.cut(1, 0));
        due.no("commit 1", x.commit());
    }

    /** A COMMIT counts with DIRTY blocks and without; no other call does. */
    private static void onlyCommitsCount() {
        CommitLog x = new CommitLog();
        x.cut(3, 500);
        for (int i = 1; i <= 3; i++) {
            x.write(i, 0, i);
            x.write(24, 0, i);
            x.revert();
            x.start(1000);
            x.start(500);
            x.read(i, 0);
            x.disk(i, 0);
            x.dirty(i);
            x.state(0);
            if (i == 2) {
                x.write(2, 0, 2);
            }
            due.is("commit " + i + " of 3", Refused.bit(x.commit()), i < 3 ? 1 : 0);
        }
        due.is("MARK", x.state(1), 1);
    }

    /** "(in place of what was told before)": farther, nearer, and of another share. */
    private static void inPlaceOfWhatWasToldBefore() {
        int[][] cases = {{1, 0, 3, 500}, {3, 500, 1, 0}, {1, 0, 1, 999}, {1, 999, 1, 0}, {2, 500, 2, 499},
            {1, 0, 40, 500}, {40, 0, 39, 500}};
        for (int[] c : cases) {
            String when = "cut(" + c[0] + ", " + c[1] + "), cut(" + c[2] + ", " + c[3] + ")";
            CommitLog x = new CommitLog();
            due.yes(when, x.cut(c[0], c[1]));
            due.yes(when, x.cut(c[2], c[3]));
            commitsThatStay(x, c[2] - 1, when);
            due.no(when + " goes", x.commit());
            due.is(when + " MARK", x.state(1), c[3] < 500 ? 0 : 1);
            x.start(1000);
            commitsThatStay(x, 50, when + " is all");
        }
        CommitLog x = new CommitLog();
        x.cut(2, 0);
        x.commit();
        due.yes("cut(2, 0) told again", x.cut(2, 0));
        due.yes("its first COMMIT", x.commit());
        due.no("its second COMMIT", x.commit());
        CommitLog y = new CommitLog();
        y.cut(1, 0);
        due.yes("cut(1000, 0)", y.cut(1000, 0));
        commitsThatStay(y, 500, "of 1000");
    }

    private static void aRefusedCutIsNotInItsPlace() {
        int[][] refused = {{0, 0}, {1001, 0}, {1, -1}, {1, 1000}, {5, 1000}, {-1, -1}};
        for (int[] r : refused) {
            CommitLog x = new CommitLog();
            x.cut(2, 500);
            due.no("cut(" + r[0] + ", " + r[1] + ")", x.cut(r[0], r[1]));
            due.yes("first COMMIT", x.commit());
            due.no("cut(" + r[0] + ", " + r[1] + ")", x.cut(r[0], r[1]));
            due.no("second COMMIT", x.commit());
            due.is("MARK", x.state(1), 1);
        }
    }

    /** "in the n-th COMMIT": not in those after it. */
    private static void oneTimeOnly() {
        int[] shares = {0, 499, 500, 999};
        for (int share : shares) {
            for (int n = 1; n <= 3; n++) {
                CommitLog x = new CommitLog();
                x.cut(n, share);
                commitsThatStay(x, n - 1, "of " + n);
                due.no("commit " + n, x.commit());
                due.no("commit when off", x.commit());
                x.start(500);
                due.no("commit when off again", x.commit());
                x.start(1000);
                commitsThatStay(x, 20, "after power came");
            }
        }
    }

    /** "n is not 1 .. 1000": both ends are. */
    private static void theEdgesOfN() {
        CommitLog x = new CommitLog();
        due.yes("cut(1000, 0)", x.cut(1000, 0));
        due.yes("cut(999, 0)", x.cut(999, 0));
        commitsThatStay(x, 500, "of 999");
        due.yes("cut(2, 0)", x.cut(2, 0));
        due.yes("cut(1, 0)", x.cut(1, 0));
        due.no("the next", x.commit());
    }

    /** "false if .. n is not 1 .. 1000" */
    private static void falseIfNIsNotOneToThousand() {
        for (int n : Edges.NO_COMMIT_AHEAD) {
            Refused.changesNothing(due, "cut(" + n + ", 0)", Scenes.on(), 0, x -> Refused.bit(x.cut(n, 0)));
            Refused.changesNothing(due, "cut(" + n + ", 999)", Scenes.on(), 0, x -> Refused.bit(x.cut(n, 999)));
        }
    }

    /** "the share not 0 .. 999": both ends are. */
    private static void theEdgesOfTheShare() {
        CommitLog x = new CommitLog();
        due.yes("cut(1, 0)", x.cut(1, 0));
        due.no("commit at 0", x.commit());
        due.is("MARK at 0", x.state(1), 0);
        x.start(1000);
        due.yes("cut(1, 999)", x.cut(1, 999));
        due.no("commit at 999", x.commit());
        due.is("MARK at 999", x.state(1), 1);
    }

    /** "false if .. the share not 0 .. 999" */
    private static void falseIfTheShareIsNotOne() {
        for (int share : Edges.NO_CUT_SHARE) {
            Refused.changesNothing(due, "cut(1, " + share + ")", Scenes.on(), 0, x -> Refused.bit(x.cut(1, share)));
            Refused.changesNothing(due, "cut(1000, " + share + ")", Scenes.on(), 0,
                x -> Refused.bit(x.cut(1000, share)));
        }
    }

    private static void falseIfBothAreWrong() {
        for (int n : Edges.NO_COMMIT_AHEAD) {
            for (int share : Edges.NO_CUT_SHARE) {
                CommitLog x = new CommitLog();
                due.no("cut(" + n + ", " + share + ")", x.cut(n, share));
                due.yes("commit", x.commit());
            }
        }
    }

    /** "false if power is off" */
    private static void falseIfPowerIsOff() {
        int[][] told = {{1, 0}, {1, 999}, {2, 500}, {1000, 999}, {0, 0}, {1, 1000}};
        for (int[] t : told) {
            Refused.changesNothing(due, "cut(" + t[0] + ", " + t[1] + ") when off", Scenes.off(), 0,
                x -> Refused.bit(x.cut(t[0], t[1])));
        }
    }

    private static void commitsThatStay(CommitLog x, int count, String when) {
        for (int i = 1; i <= count; i++) {
            due.yes("commit " + i + " " + when, x.commit());
        }
    }
}
