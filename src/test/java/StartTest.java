/** Promise 9, and the words on POWER COMES. */
public final class StartTest {
    private static final Due due = new Due();

    public static void main(String[] args) {
        trueIfPowerStays();
        falseIfPowerGoes();
        falseIfItIsOn();
        falseForAnotherShare();
        allComeAndTheMarkGoes();
        theFirstOfThemCome();
        theShareIsCut();
        theShareIsOfTheWholeLogEachTime();
        theMarkStaysWhilePowerGoes();
        withoutAMarkNothingComes();
        aMarkOfNoBlocks();
        theBlocksOfTheCommitThatMadeTheMark();
        whatIsAtWorkIsWhatIsOnTheDisk();
        due.end();
    }

    /** "true if it stays (the share is 1000)" */
    private static void trueIfPowerStays() {
        for (Scenes.Scene scene : Scenes.off()) {
            CommitLog x = scene.make();
            due.yes("start(1000)", x.start(1000));
            due.is("power", x.state(0), 1);
            due.yes("write", x.write(0, 0, 1));
            due.yes("commit", x.commit());
            due.is("disk", x.disk(0, 0), 1);
        }
    }

    /** "false if it goes at that SHARE (0 .. 999)" */
    private static void falseIfPowerGoes() {
        for (Scenes.Scene scene : Scenes.off()) {
            CommitLog x = scene.make();
            for (int share : Edges.SHARES_THAT_GO) {
                due.no("start(" + share + ")", x.start(share));
                due.is("power after start(" + share + ")", x.state(0), 0);
                due.no("write after start(" + share + ")", x.write(0, 0, 1));
            }
            due.yes("start(1000)", x.start(1000));
        }
    }

    /** "false if .. it is on": for every share. */
    private static void falseIfItIsOn() {
        int[] shares = {-1, 0, 1, 499, 500, 999, 1000, 1001, Integer.MIN_VALUE, Integer.MAX_VALUE};
        for (int share : shares) {
            Refused.changesNothing(due, "start(" + share + ") when on", Scenes.on(), 0,
                x -> Refused.bit(x.start(share)));
        }
    }

    /** "false .. for another share" */
    private static void falseForAnotherShare() {
        for (int share : Edges.NO_START_SHARE) {
            Refused.changesNothing(due, "start(" + share + ") when off", Scenes.off(), 0,
                x -> Refused.bit(x.start(share)));
        }
    }

    /** "come to the disk: all, and the MARK goes" */
    private static void allComeAndTheMarkGoes() {
        for (int n : Edges.COUNTS) {
            for (int share : Edges.SHARES_WITH_MARK) {
                String when = n + " at " + share;
                CommitLog x = Scenes.gone(n, share);
                due.yes("start(1000), " + when, x.start(1000));
                due.is(when, Scenes.onDisk(due, when, x, n), n);
                due.is("MARK, " + when, x.state(1), 0);
            }
        }
    }

    /** "if power goes at a SHARE of it, the first n * SHARE / 1000": none at 0, all but one at 999. */
    private static void theFirstOfThemCome() {
        for (int n : Edges.COUNTS) {
            for (int share = 0; share <= 999; share++) {
                String when = "start(" + share + ") of " + n;
                CommitLog x = Scenes.gone(n, 500);
                due.no(when, x.start(share));
                int came = Scenes.onDisk(due, when, x, n);
                due.is(when, came, n * share / 1000);
                due.no(when + ": one at 0", share == 0 && came != 0);
                due.no(when + ": another than n - 1 at 999", share == 999 && n > 0 && came != n - 1);
            }
        }
    }

    /** A block comes at the share that is enough for the whole of it, not a share before. */
    private static void theShareIsCut() {
        int[][] cases = {{1, 999, 0}, {2, 499, 0}, {2, 500, 1}, {3, 333, 0}, {3, 334, 1}, {3, 666, 1}, {3, 667, 2},
            {7, 142, 0}, {7, 143, 1}, {23, 43, 0}, {23, 44, 1}, {24, 41, 0}, {24, 42, 1}, {24, 958, 22}, {24, 959, 23}};
        for (int[] c : cases) {
            String when = "start(" + c[1] + ") of " + c[0];
            CommitLog x = Scenes.gone(c[0], 500);
            x.start(c[1]);
            due.is(when, Scenes.onDisk(due, when, x, c[0]), c[2]);
        }
    }

    /** "the blocks of the LOG .. in their order": from the first on, whatever came before. */
    private static void theShareIsOfTheWholeLogEachTime() {
        CommitLog x = Scenes.gone(8, 700);
        due.is("at the cut", Scenes.onDisk(due, "cut", x, 8), 3);
        int[][] steps = {{0, 3}, {250, 3}, {500, 4}, {500, 4}, {375, 4}, {999, 7}, {0, 7}, {1000, 8}};
        for (int[] s : steps) {
            x.start(s[0]);
            due.is("start(" + s[0] + ")", Scenes.onDisk(due, "start(" + s[0] + ")", x, 8), s[1]);
        }
    }

    /** The MARK goes only after all have come, so it stays at every share that power goes at. */
    private static void theMarkStaysWhilePowerGoes() {
        CommitLog x = Scenes.gone(5, 999);
        for (int round = 0; round < 5; round++) {
            for (int share : Edges.SHARES_THAT_GO) {
                due.no("start(" + share + ")", x.start(share));
                due.is("MARK after start(" + share + ")", x.state(1), 1);
            }
        }
        due.yes("start(1000)", x.start(1000));
        due.is("MARK after start(1000)", x.state(1), 0);
        due.is("all", Scenes.onDisk(due, "start(1000)", x, 5), 5);
    }

    /** "if there is a MARK" */
    private static void withoutAMarkNothingComes() {
        for (int share : Edges.SHARES_WITHOUT_MARK) {
            CommitLog x = Scenes.gone(8, share);
            for (int at : Edges.SHARES_THAT_GO) {
                due.no("start(" + at + ")", x.start(at));
            }
            due.is("none", Scenes.onDisk(due, "no MARK", x, 8), 0);
            due.is("MARK", x.state(1), 0);
            due.yes("start(1000)", x.start(1000));
            due.is("none", Scenes.onDisk(due, "no MARK", x, 8), 0);
            due.is("MARK", x.state(1), 0);
        }
    }

    /** A log of no blocks has its MARK as any has. */
    private static void aMarkOfNoBlocks() {
        CommitLog x = new CommitLog();
        x.write(5, 5, 5);
        x.commit();
        x.write(5, 5, 6);
        x.revert();
        x.cut(1, 500);
        x.commit();
        for (int share : Edges.SHARES_THAT_GO) {
            due.no("start(" + share + ")", x.start(share));
            due.is("MARK", x.state(1), 1);
        }
        due.yes("start(1000)", x.start(1000));
        due.is("MARK", x.state(1), 0);
        due.is("disk", x.disk(5, 5), 5);
        due.is("read", x.read(5, 5), 5);
    }

    /** "(those of the COMMIT that made it)" */
    private static void theBlocksOfTheCommitThatMadeTheMark() {
        CommitLog x = new CommitLog();
        for (int block = 0; block < Edges.BLOCKS; block++) {
            x.write(block, 0, 50 + block);
        }
        x.commit();
        x.write(0, 0, 1);
        x.commit();
        x.write(20, 0, 2);
        x.cut(1, 250);
        x.commit();
        x.start(1000);
        x.write(10, 0, 3);
        x.write(10, 1, 4);
        x.cut(1, 500);
        due.no("commit", x.commit());
        due.is("disk(10, 0) before", x.disk(10, 0), 60);
        due.yes("start", x.start(1000));
        for (int block = 0; block < Edges.BLOCKS; block++) {
            int want = block == 0 ? 1 : block == 10 ? 3 : 50 + block;
            due.is("disk of block " + block, x.disk(block, 0), want);
        }
        due.is("disk(10, 1)", x.disk(10, 1), 4);
    }

    /** "If power stays, what is at work is what is on the disk." */
    private static void whatIsAtWorkIsWhatIsOnTheDisk() {
        int[] shares = {0, 499, 500, 750, 999};
        for (int share : shares) {
            CommitLog x = Scenes.dirty(12);
            x.commit();
            Scenes.writeBlocks(x, 24, 3);
            x.cut(1, share);
            x.commit();
            due.yes("start(1000)", x.start(1000));
            for (int block = 0; block < Edges.BLOCKS; block++) {
                int before = block % 2 == 1 ? 100 + block : 0;
                int want = share < 500 ? before : 3 + block;
                due.is("disk of block " + block + " after " + share, x.disk(block, 15), want);
                due.is("read of block " + block + " after " + share, x.read(block, 15), want);
                due.is("read is disk", x.read(block, 0), x.disk(block, 0));
                due.no("dirty(" + block + ")", x.dirty(block));
            }
        }
    }
}
