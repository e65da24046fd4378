import java.util.ArrayList;
import java.util.List;

/**
 * Holds that a call changes nothing: an object that had the call and one that had not are looked at in the same ways.
 * Each way has objects of its own, as an object has 512 calls only.
 */
final class Refused {
    interface Call {
        long on(CommitLog x);
    }

    private interface Look {
        List<Long> at(CommitLog x);
    }

    private static final Look[] LOOKS = {Refused::disk, Refused::work, Refused::diskAfterPower, Refused::workAfterPower,
        Refused::commitsToCome};

    private Refused() {
    }

    static void changesNothing(Due due, String name, Scenes.Scene[] scenes, long answer, Call call) {
        for (int scene = 0; scene < scenes.length; scene++) {
            for (int look = 0; look < LOOKS.length; look++) {
                CommitLog with = scenes[scene].make();
                CommitLog without = scenes[scene].make();
                due.is(name + " in scene " + scene, call.on(with), answer);
                due.yes(name + " changes nothing in scene " + scene + ", look " + look,
                    LOOKS[look].at(with).equals(LOOKS[look].at(without)));
            }
        }
    }

    static long bit(boolean b) {
        return b ? 1 : 0;
    }

    private static List<Long> disk(CommitLog x) {
        List<Long> seen = states(x);
        for (int cell = 0; cell < Edges.CELLS; cell++) {
            seen.add((long) x.disk(cell / Edges.PLACES, cell % Edges.PLACES));
        }
        return seen;
    }

    private static List<Long> work(CommitLog x) {
        List<Long> seen = states(x);
        for (int block = 0; block < Edges.BLOCKS; block++) {
            seen.add(bit(x.dirty(block)));
        }
        for (int cell = 0; cell < Edges.CELLS; cell++) {
            seen.add((long) x.read(cell / Edges.PLACES, cell % Edges.PLACES));
        }
        return seen;
    }

    private static List<Long> diskAfterPower(CommitLog x) {
        bringPower(x);
        return disk(x);
    }

    private static List<Long> workAfterPower(CommitLog x) {
        bringPower(x);
        return work(x);
    }

    /** What is told to a cut shows only in the COMMITs to come. */
    private static List<Long> commitsToCome(CommitLog x) {
        List<Long> seen = new ArrayList<>();
        bringPower(x);
        for (int i = 0; i < 4; i++) {
            Scenes.writeBlocks(x, 4, 30 * i);
            seen.add(bit(x.commit()));
            seen.addAll(states(x));
        }
        seen.addAll(disk(x));
        return seen;
    }

    /** Only if it is off: a start that a fault makes change something would do so on both objects, and hide it. */
    private static void bringPower(CommitLog x) {
        if (x.state(0) == 0) {
            x.start(1000);
        }
    }

    private static List<Long> states(CommitLog x) {
        List<Long> seen = new ArrayList<>();
        for (int what = 0; what < 3; what++) {
            seen.add((long) x.state(what));
        }
        return seen;
    }
}
