/** Promise 10. */
public final class StateTest {
    private static final Due due = new Due();

    public static void main(String[] args) {
        powerOnAndOff();
        markOrNot();
        zeroWithoutACommit();
        theLatestCommit();
        aCommitThatWasOnlyBegun();
        whatDoesNotChangeIt();
        noneForAnotherWhat();
        stateChangesNothing();
        due.end();
    }

    /** "What 0: 1 if power is on, else 0" */
    private static void powerOnAndOff() {
        for (Scenes.Scene scene : Scenes.on()) {
            due.is("state(0) when on", scene.make().state(0), 1);
        }
        for (Scenes.Scene scene : Scenes.off()) {
            CommitLog x = scene.make();
            due.is("state(0) when off", x.state(0), 0);
            x.start(999);
            due.is("state(0) after start(999)", x.state(0), 0);
            x.start(1000);
            due.is("state(0) after start(1000)", x.state(0), 1);
        }
    }

    /** "1: 1 if there is a MARK, else 0" */
    private static void markOrNot() {
        for (Scenes.Scene scene : Scenes.on()) {
            due.is("state(1) when on", scene.make().state(1), 0);
        }
        for (int n : Edges.COUNTS) {
            due.is("state(1) at 499", Scenes.gone(n, 499).state(1), 0);
            CommitLog x = Scenes.gone(n, 500);
            due.is("state(1) at 500", x.state(1), 1);
            x.start(999);
            due.is("state(1) after start(999)", x.state(1), 1);
            x.start(1000);
            due.is("state(1) after start(1000)", x.state(1), 0);
        }
    }

    /** "(0 without one)" */
    private static void zeroWithoutACommit() {
        CommitLog x = new CommitLog();
        due.is("state(2) of a new object", x.state(2), 0);
        x.write(0, 0, 1);
        x.write(1, 0, 1);
        due.is("state(2) after writes", x.state(2), 0);
        x.revert();
        x.cut(1, 0);
        due.is("state(2) after revert and cut", x.state(2), 0);
    }

    /** "2: how many blocks the latest COMMIT had": from none to all, and back. */
    private static void theLatestCommit() {
        int[] counts = {24, 0, 1, 23, 2, 24};
        CommitLog x = new CommitLog();
        for (int n : counts) {
            Scenes.writeBlocks(x, n, 9);
            x.commit();
            due.is("state(2) of " + n, x.state(2), n);
        }
        x.write(3, 0, 1);
        x.write(3, 1, 1);
        x.write(3, 0, 2);
        x.commit();
        due.is("a block counts once", x.state(2), 1);
    }

    /** "as far as it was begun": power went in it, at whatever share, and it had its blocks. */
    private static void aCommitThatWasOnlyBegun() {
        for (int n : Edges.COUNTS) {
            for (int share : Edges.SHARES_THAT_GO) {
                CommitLog x = new CommitLog();
                Scenes.writeBlocks(x, 7, 1);
                x.commit();
                Scenes.writeBlocks(x, n, 2);
                x.cut(1, share);
                x.commit();
                due.is("state(2) of " + n + " at " + share, x.state(2), n);
                x.start(500);
                due.is("state(2) after start(500)", x.state(2), n);
                x.start(1000);
                due.is("state(2) after start(1000)", x.state(2), n);
            }
        }
    }

    private static void whatDoesNotChangeIt() {
        CommitLog x = Scenes.dirty(3);
        x.commit();
        x.write(0, 0, 1);
        due.is("state(2) after a write", x.state(2), 3);
        x.revert();
        due.is("state(2) after revert", x.state(2), 3);
        x.start(1000);
        due.is("state(2) after a refused start", x.state(2), 3);
        x.write(0, 0, 1);
        x.cut(1, 500);
        x.commit();
        x.commit();
        due.is("state(2) after a refused commit", x.state(2), 1);
    }

    /** "NONE for another what": whether power is on or off. */
    private static void noneForAnotherWhat() {
        for (int what : Edges.NO_WHAT) {
            for (Scenes.Scene scene : Scenes.on()) {
                due.is("state(" + what + ") when on", scene.make().state(what), -1);
            }
            for (Scenes.Scene scene : Scenes.off()) {
                due.is("state(" + what + ") when off", scene.make().state(what), -1);
            }
        }
    }

    private static void stateChangesNothing() {
        Refused.changesNothing(due, "state(3)", Scenes.on(), -1, x -> x.state(3));
        Refused.changesNothing(due, "state(-1) when off", Scenes.off(), -1, x -> x.state(-1));
        Refused.changesNothing(due, "state(0) when off", Scenes.off(), 0, x -> x.state(0));
    }
}
