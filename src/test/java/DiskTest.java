/** Promise 4. */
public final class DiskTest {
    private static final Due due = new Due();

    public static void main(String[] args) {
        everyValueOfAByte();
        itIsTheByteOnTheDisk();
        noneIfThereIsNoSuchBlock();
        noneIfThereIsNoSuchPlace();
        itAnswersWhilePowerIsOff();
        diskChangesNothing();
        due.end();
    }

    /** "0 .. 255" */
    private static void everyValueOfAByte() {
        for (int from = 0; from < 256; from += 128) {
            CommitLog x = new CommitLog();
            for (int v = from; v < from + 128; v++) {
                x.write(9, 4, v);
                x.commit();
                due.is("disk of " + v, x.disk(9, 4), v);
            }
        }
    }

    /** "A byte on the disk" */
    private static void itIsTheByteOnTheDisk() {
        CommitLog x = new CommitLog();
        x.write(1, 0, 5);
        due.is("disk before the COMMIT", x.disk(1, 0), 0);
        x.commit();
        due.is("disk after it", x.disk(1, 0), 5);
        x.write(1, 0, 6);
        due.is("disk after a write", x.disk(1, 0), 5);
        x.revert();
        due.is("disk after revert", x.disk(1, 0), 5);
    }

    /** "NONE if there is none such": no such block, whether power is on or off. */
    private static void noneIfThereIsNoSuchBlock() {
        for (int block : Edges.NO_BLOCKS) {
            for (CommitLog x : onAndOff()) {
                due.is("disk(" + block + ", 0)", x.disk(block, 0), -1);
                due.is("disk(" + block + ", 15)", x.disk(block, 15), -1);
                due.is("disk(" + block + ", 16)", x.disk(block, 16), -1);
            }
        }
    }

    /** "NONE if there is none such": no such place, whether power is on or off. */
    private static void noneIfThereIsNoSuchPlace() {
        for (int place : Edges.NO_PLACES) {
            for (CommitLog x : onAndOff()) {
                due.is("disk(0, " + place + ")", x.disk(0, place), -1);
                due.is("disk(5, " + place + ")", x.disk(5, place), -1);
                due.is("disk(23, " + place + ")", x.disk(23, place), -1);
            }
        }
    }

    /** Promise 4 names no power, so what is on the disk is told without it too. */
    private static void itAnswersWhilePowerIsOff() {
        int[] shares = {0, 499, 500, 999};
        for (int share : shares) {
            CommitLog x = Scenes.dirty(24);
            x.commit();
            x.write(0, 1, 3);
            x.cut(1, share);
            x.commit();
            due.is("power", x.state(0), 0);
            due.is("all on the disk when off, share " + share, Scenes.onDisk(due, "off at " + share, x, 24), 24);
            due.is("what was never written", x.disk(4, 4), 0);
            x.start(999);
            due.is("all on the disk after start(999)", Scenes.onDisk(due, "off again", x, 24), 24);
        }
    }

    private static void diskChangesNothing() {
        Refused.changesNothing(due, "disk(24, 0)", Scenes.on(), -1, x -> x.disk(24, 0));
        Refused.changesNothing(due, "disk(24, 0) when off", Scenes.off(), -1, x -> x.disk(24, 0));
        Refused.changesNothing(due, "disk(7, 7) when off", Scenes.off(), 0, x -> x.disk(7, 7));
    }

    private static CommitLog[] onAndOff() {
        return new CommitLog[] {new CommitLog(), Scenes.onWithAll(), Scenes.offWithoutMark(), Scenes.offWithMark(),
            Scenes.offAfterStart()};
    }
}
