/** Promise 3. */
public final class ReadTest {
    private static final Due due = new Due();

    public static void main(String[] args) {
        everyValueOfAByte();
        itIsTheByteAtWork();
        noneIfThereIsNoSuchBlock();
        noneIfThereIsNoSuchPlace();
        noneIfPowerIsOff();
        noneAfterPowerCameAndWent();
        readChangesNothing();
        due.end();
    }

    /** "0 .. 255" */
    private static void everyValueOfAByte() {
        for (int from = 0; from < 256; from += 128) {
            CommitLog x = new CommitLog();
            for (int v = from; v < from + 128; v++) {
                x.write(9, 4, v);
                due.is("read of " + v, x.read(9, 4), v);
            }
        }
    }

    /** "A byte at work" */
    private static void itIsTheByteAtWork() {
        CommitLog x = new CommitLog();
        x.write(2, 3, 9);
        x.commit();
        x.write(2, 3, 10);
        due.is("read", x.read(2, 3), 10);
        due.is("disk", x.disk(2, 3), 9);
    }

    /** "NONE if .. there is none such": no such block. */
    private static void noneIfThereIsNoSuchBlock() {
        for (int block : Edges.NO_BLOCKS) {
            for (Scenes.Scene scene : Scenes.on()) {
                CommitLog x = scene.make();
                due.is("read(" + block + ", 0)", x.read(block, 0), -1);
                due.is("read(" + block + ", 15)", x.read(block, 15), -1);
                due.is("read(" + block + ", 16)", x.read(block, 16), -1);
            }
        }
    }

    /** "NONE if .. there is none such": no such place. */
    private static void noneIfThereIsNoSuchPlace() {
        for (int place : Edges.NO_PLACES) {
            for (Scenes.Scene scene : Scenes.on()) {
                CommitLog x = scene.make();
                due.is("read(0, " + place + ")", x.read(0, place), -1);
                due.is("read(5, " + place + ")", x.read(5, place), -1);
                due.is("read(23, " + place + ")", x.read(23, place), -1);
            }
        }
    }

    /** "NONE if power is off" */
    private static void noneIfPowerIsOff() {
        for (Scenes.Scene scene : Scenes.off()) {
            CommitLog x = scene.make();
            for (int cell = 0; cell < Edges.CELLS; cell++) {
                due.is("read of cell " + cell + " when off", x.read(cell / 16, cell % 16), -1);
            }
            due.is("read(24, 0) when off", x.read(24, 0), -1);
            due.is("read(0, 16) when off", x.read(0, 16), -1);
        }
    }

    private static void noneAfterPowerCameAndWent() {
        CommitLog x = Scenes.gone(8, 999);
        for (int share : Edges.SHARES_THAT_GO) {
            x.start(share);
            due.is("read after start(" + share + ")", x.read(2, 15), -1);
        }
        x.start(1000);
        due.is("read when power stays", x.read(2, 15), 102);
    }

    private static void readChangesNothing() {
        Refused.changesNothing(due, "read(24, 0)", Scenes.on(), -1, x -> x.read(24, 0));
        Refused.changesNothing(due, "read(0, 0)", Scenes.off(), -1, x -> x.read(0, 0));
    }
}
