/** The words on a COMMIT in which power goes. */
public final class CommitCutTest {
    private static final Due due = new Due();

    public static void main(String[] args) {
        belowFiveHundredThereIsNoMark();
        belowFiveHundredNothingComesToTheDisk();
        whatCameIntoTheLogWithoutMarkComesToNoDiskLater();
        fromFiveHundredOnThereIsTheMark();
        fromFiveHundredOnAllAreInTheLog();
        theFirstOfThemComeToTheDisk();
        theShareOfTheDiskIsCut();
        byTheirNumbers();
        noDirtyBlock();
        allBlocks();
        aShorterLogIsInPlaceOfALonger();
        aLogWithoutMarkIsInPlaceOfAMarkedOne();
        whatIsAtWorkIsLost();
        due.end();
    }

    /** "below 500 .. no MARK" */
    private static void belowFiveHundredThereIsNoMark() {
        for (int n : Edges.COUNTS) {
            for (int share : Edges.SHARES_WITHOUT_MARK) {
                CommitLog x = Scenes.gone(n, share);
                due.is("MARK, " + n + " at " + share, x.state(1), 0);
                x.start(0);
                due.is("MARK after start(0)", x.state(1), 0);
                x.start(999);
                due.is("MARK after start(999)", x.state(1), 0);
                x.start(1000);
                due.is("MARK after start(1000)", x.state(1), 0);
            }
        }
    }

    /** "below 500 the first n * SHARE / 500 (cut) come into the log": what came there shows nowhere, then or later. */
    private static void belowFiveHundredNothingComesToTheDisk() {
        for (int n : Edges.COUNTS) {
            for (int share = 0; share <= 499; share++) {
                String when = n + " at " + share;
                CommitLog x = Scenes.gone(n, share);
                due.is(when, Scenes.onDisk(due, when, x, n), 0);
                x.start(999);
                due.is(when + ", start(999)", Scenes.onDisk(due, when, x, n), 0);
                x.start(1000);
                due.is(when + ", start(1000)", Scenes.onDisk(due, when, x, n), 0);
                due.is(when + ", read", x.read(23, 15), 0);
            }
        }
    }

    /** "below 500 .. no MARK": nor does any call with power on bring it there. */
    private static void whatCameIntoTheLogWithoutMarkComesToNoDiskLater() {
        for (int share : Edges.SHARES_WITHOUT_MARK) {
            CommitLog x = Scenes.gone(12, share);
            x.start(1000);
            due.yes("revert", x.revert());
            due.is("after revert", Scenes.onDisk(due, "revert, " + share, x, 12), 0);
            due.no("start when on", x.start(1000));
            due.is("after start", Scenes.onDisk(due, "start, " + share, x, 12), 0);
            due.yes("commit of none", x.commit());
            due.is("after a commit of none", Scenes.onDisk(due, "commit of none, " + share, x, 12), 0);
            due.yes("write", x.write(0, 5, 1));
            due.yes("commit of another", x.commit());
            due.is("after a commit of another", Scenes.onDisk(due, "commit, " + share, x, 12), 0);
            x.write(2, 5, 1);
            x.cut(1, 999);
            due.no("marked commit of another", x.commit());
            due.yes("start", x.start(1000));
            due.is("after a MARK", Scenes.onDisk(due, "MARK, " + share, x, 12), 0);
            due.is("the marked one", x.disk(2, 5), 1);
        }
    }

    /** "else .. there is the MARK" */
    private static void fromFiveHundredOnThereIsTheMark() {
        for (int n : Edges.COUNTS) {
            for (int share : Edges.SHARES_WITH_MARK) {
                due.is("MARK, " + n + " at " + share, Scenes.gone(n, share).state(1), 1);
            }
        }
    }

    /** "else all do": each of them is there when power comes. */
    private static void fromFiveHundredOnAllAreInTheLog() {
        for (int n : Edges.COUNTS) {
            for (int share : Edges.SHARES_WITH_MARK) {
                String when = n + " at " + share + ", start(1000)";
                CommitLog x = Scenes.gone(n, share);
                due.yes(when, x.start(1000));
                due.is(when, Scenes.onDisk(due, when, x, n), n);
                due.is(when + " MARK", x.state(1), 0);
            }
        }
    }

    /** "the first n * (SHARE - 500) / 500 come to the disk": none at 500, all but one at 999. */
    private static void theFirstOfThemComeToTheDisk() {
        for (int n : Edges.COUNTS) {
            for (int share = 500; share <= 999; share++) {
                String when = n + " at " + share;
                due.is(when, Scenes.onDisk(due, when, Scenes.gone(n, share), n), n * (share - 500) / 500);
            }
            due.is(n + " at 500", Scenes.onDisk(due, n + " at 500", Scenes.gone(n, 500), n), 0);
            due.is(n + " at 999", Scenes.onDisk(due, n + " at 999", Scenes.gone(n, 999), n), n == 0 ? 0 : n - 1);
        }
    }

    /** "(cut)": a block comes at the share that is enough for the whole of it, not a share before. */
    private static void theShareOfTheDiskIsCut() {
        int[][] cases = {{2, 749, 0}, {2, 750, 1}, {3, 666, 0}, {3, 667, 1}, {3, 833, 1}, {3, 834, 2}, {5, 599, 0},
            {5, 600, 1}, {5, 899, 3}, {5, 900, 4}, {7, 571, 0}, {7, 572, 1}, {23, 521, 0}, {23, 522, 1}, {24, 520, 0},
            {24, 521, 1}, {24, 979, 22}, {24, 980, 23}};
        for (int[] c : cases) {
            String when = c[0] + " at " + c[1];
            due.is(when, Scenes.onDisk(due, when, Scenes.gone(c[0], c[1]), c[0]), c[2]);
        }
    }

    /** "by their numbers": in whatever order they were written, and whatever was written again. */
    private static void byTheirNumbers() {
        int[][] orders = {{2, 9, 17, 23}, {23, 17, 9, 2}, {17, 2, 23, 9}, {9, 23, 2, 17, 9, 23}};
        for (int[] order : orders) {
            CommitLog x = new CommitLog();
            for (int block : order) {
                x.write(block, 8, 50);
            }
            x.cut(1, 750);
            x.commit();
            due.is("disk of 2", x.disk(2, 8), 50);
            due.is("disk of 9", x.disk(9, 8), 50);
            due.is("disk of 17", x.disk(17, 8), 0);
            due.is("disk of 23", x.disk(23, 8), 0);
            x.start(750);
            due.is("disk of 17 after start(750)", x.disk(17, 8), 50);
            due.is("disk of 23 after start(750)", x.disk(23, 8), 0);
        }
    }

    /** No DIRTY block: power goes as with any, the MARK is there or not, and the disk stays. */
    private static void noDirtyBlock() {
        int[] shares = {0, 499, 500, 999};
        for (int share : shares) {
            CommitLog x = new CommitLog();
            x.write(6, 6, 66);
            x.commit();
            x.cut(1, share);
            due.no("commit of none at " + share, x.commit());
            due.is("power", x.state(0), 0);
            due.is("MARK at " + share, x.state(1), share < 500 ? 0 : 1);
            due.is("state(2)", x.state(2), 0);
            due.is("disk", x.disk(6, 6), 66);
            due.no("start(999)", x.start(999));
            due.is("MARK after start(999)", x.state(1), share < 500 ? 0 : 1);
            due.yes("start(1000)", x.start(1000));
            due.is("MARK after start(1000)", x.state(1), 0);
            due.is("disk after start(1000)", x.disk(6, 6), 66);
            due.is("read after start(1000)", x.read(6, 6), 66);
        }
    }

    /** All 24 are DIRTY, at the edges of the share. */
    private static void allBlocks() {
        int[][] cases = {{0, 0, 0}, {499, 0, 0}, {500, 0, 24}, {999, 23, 24}};
        for (int[] c : cases) {
            String when = "24 at " + c[0];
            CommitLog x = Scenes.gone(24, c[0]);
            due.is(when, Scenes.onDisk(due, when, x, 24), c[1]);
            due.is(when + " state(2)", x.state(2), 24);
            x.start(1000);
            due.is(when + ", start(1000)", Scenes.onDisk(due, when, x, 24), c[2]);
        }
    }

    /** "in place of what was there": the longer log before it does not come back with it. */
    private static void aShorterLogIsInPlaceOfALonger() {
        CommitLog x = Scenes.dirty(24);
        x.commit();
        for (int block = 0; block < Edges.BLOCKS; block++) {
            x.write(block, 0, 9);
        }
        x.commit();
        x.write(3, 0, 10);
        x.cut(1, 500);
        x.commit();
        due.is("not yet", x.disk(3, 0), 9);
        x.write(4, 0, 11);
        due.yes("start(1000)", x.start(1000));
        for (int block = 0; block < Edges.BLOCKS; block++) {
            due.is("disk of block " + block, x.disk(block, 0), block == 3 ? 10 : 9);
            due.is("last place of block " + block, x.disk(block, 15), 100 + block);
        }
    }

    /** "in place of what was there .. and no MARK": what an earlier MARK made good is not made good again. */
    private static void aLogWithoutMarkIsInPlaceOfAMarkedOne() {
        CommitLog x = new CommitLog();
        x.write(1, 0, 5);
        x.write(2, 0, 5);
        x.cut(1, 500);
        x.commit();
        x.start(1000);
        x.write(1, 0, 6);
        x.write(2, 0, 6);
        due.yes("commit", x.commit());
        x.write(1, 0, 7);
        x.write(2, 0, 7);
        x.cut(1, 250);
        due.no("commit at 250", x.commit());
        due.yes("start(1000)", x.start(1000));
        due.is("disk(1, 0)", x.disk(1, 0), 6);
        due.is("disk(2, 0)", x.disk(2, 0), 6);
        x.cut(1, 500);
        due.no("commit of none at 500", x.commit());
        due.yes("start(1000)", x.start(1000));
        due.is("disk(1, 0) after a MARK of none", x.disk(1, 0), 6);
        due.is("disk(2, 0) after a MARK of none", x.disk(2, 0), 6);
    }

    /** "What is AT WORK is lost when power goes." */
    private static void whatIsAtWorkIsLost() {
        for (int share : Edges.SHARES_WITHOUT_MARK) {
            CommitLog x = new CommitLog();
            x.write(0, 0, 1);
            x.write(12, 3, 1);
            x.commit();
            x.write(0, 0, 2);
            x.write(23, 15, 2);
            x.cut(1, share);
            x.commit();
            x.start(1000);
            due.is("read(0, 0) after share " + share, x.read(0, 0), 1);
            due.is("read(12, 3) after share " + share, x.read(12, 3), 1);
            due.is("read(23, 15) after share " + share, x.read(23, 15), 0);
            due.yes("commit of none", x.commit());
            due.is("nothing was left to commit", x.state(2), 0);
            due.is("disk(0, 0)", x.disk(0, 0), 1);
        }
    }
}
