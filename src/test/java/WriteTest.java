/** Promise 2. */
public final class WriteTest {
    private static final Due due = new Due();

    public static void main(String[] args) {
        theLowestEightBits();
        everyByteIsItsOwn();
        theLaterWriteHolds();
        falseIfThereIsNoSuchBlock();
        falseIfThereIsNoSuchPlace();
        falseIfNeitherIsThere();
        falseIfPowerIsOff();
        due.end();
    }

    /** "becomes the lowest eight bits of v: true" */
    private static void theLowestEightBits() {
        int[][] cases = {{0, 0}, {1, 1}, {127, 127}, {128, 128}, {255, 255}, {256, 0}, {257, 1}, {300, 44}, {-1, 255},
            {-128, 128}, {-255, 1}, {-256, 0}, {65535, 255}, {65536, 0}, {Integer.MAX_VALUE, 255},
            {Integer.MIN_VALUE, 0}, {Integer.MIN_VALUE + 1, 1}};
        CommitLog x = new CommitLog();
        for (int[] c : cases) {
            // Another value stands there first, so that a write that is left out shows.
            x.write(23, 15, c[1] + 1);
            due.yes("write of " + c[0], x.write(23, 15, c[0]));
            due.is("read of " + c[0], x.read(23, 15), c[1]);
            due.yes("commit", x.commit());
            due.is("disk of " + c[0], x.disk(23, 15), c[1]);
        }
    }

    /** Six blocks to an object, as an object has 512 calls only. */
    private static void everyByteIsItsOwn() {
        for (int from = 0; from < Edges.CELLS; from += 96) {
            CommitLog x = new CommitLog();
            for (int cell = from; cell < from + 96; cell++) {
                due.yes("write", x.write(cell / 16, cell % 16, cell * 7 + 3));
            }
            for (int cell = from; cell < from + 96; cell++) {
                due.is("read of cell " + cell, x.read(cell / 16, cell % 16), (cell * 7 + 3) & 255);
                due.is("disk of cell " + cell, x.disk(cell / 16, cell % 16), 0);
            }
            due.yes("commit", x.commit());
            for (int cell = from; cell < from + 96; cell++) {
                due.is("committed cell " + cell, x.disk(cell / 16, cell % 16), (cell * 7 + 3) & 255);
            }
        }
    }

    private static void theLaterWriteHolds() {
        CommitLog x = new CommitLog();
        due.yes("write", x.write(6, 6, 1));
        due.yes("write again", x.write(6, 6, 2));
        due.is("read", x.read(6, 6), 2);
        due.yes("write of 0", x.write(6, 6, 0));
        due.is("read", x.read(6, 6), 0);
    }

    /** "false if .. there is no such block" */
    private static void falseIfThereIsNoSuchBlock() {
        for (int block : Edges.NO_BLOCKS) {
            Refused.changesNothing(due, "write(" + block + ", 0, 1)", Scenes.on(), 0,
                x -> Refused.bit(x.write(block, 0, 1)));
        }
    }

    /** "false if .. there is no such .. place 0 .. 15": it does not run over into the block beside it. */
    private static void falseIfThereIsNoSuchPlace() {
        for (int place : Edges.NO_PLACES) {
            for (int block = 0; block < Edges.BLOCKS; block += 23) {
                int at = block;
                Refused.changesNothing(due, "write(" + at + ", " + place + ", 1)", Scenes.on(), 0,
                    x -> Refused.bit(x.write(at, place, 1)));
            }
            Refused.changesNothing(due, "write(5, " + place + ", 1)", Scenes.on(), 0,
                x -> Refused.bit(x.write(5, place, 1)));
        }
    }

    private static void falseIfNeitherIsThere() {
        CommitLog x = new CommitLog();
        for (int block : Edges.NO_BLOCKS) {
            for (int place : Edges.NO_PLACES) {
                due.no("write(" + block + ", " + place + ", 1)", x.write(block, place, 1));
            }
        }
    }

    /** "false if power is off" */
    private static void falseIfPowerIsOff() {
        int[][] cells = {{0, 0}, {0, 1}, {23, 15}, {7, 7}, {24, 0}, {0, 16}};
        for (int[] c : cells) {
            Refused.changesNothing(due, "write(" + c[0] + ", " + c[1] + ", 77) when off", Scenes.off(), 0,
                x -> Refused.bit(x.write(c[0], c[1], 77)));
        }
    }
}
