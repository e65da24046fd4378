import java.util.ArrayList;
import java.util.List;
import java.util.Random;
import java.util.TreeMap;

/** Long mixed runs, each answer held against a second telling of the document. */
public final class ModelTest {
    private static final int RUNS = 4000;
    private static final int CALLS = 512;
    private static final Due due = new Due();

    public static void main(String[] args) {
        for (int run = 0; run < RUNS && !due.anyWrong(); run++) {
            play(run);
        }
        due.end();
    }

    private static void play(int run) {
        Random random = new Random(run);
        // Some runs draw almost only good arguments, so that they get far; others many wrong ones.
        int wrongIn = run % 3 == 0 ? 4 : 40;
        CommitLog x = new CommitLog();
        Model m = new Model();
        for (int call = 0; call < CALLS && !due.anyWrong(); call++) {
            int block = draw(random, 24, wrongIn);
            int place = draw(random, run % 2 == 0 ? 16 : 2, wrongIn);
            step(x, m, random, block, place, "run " + run + " call " + call + ": ");
        }
    }

    private static int draw(Random random, int bound, int wrongIn) {
        if (random.nextInt(wrongIn) != 0) {
            return random.nextInt(bound);
        }
        int[] odd = {-1, bound, bound + 1, Integer.MIN_VALUE, Integer.MAX_VALUE, random.nextInt()};
        return odd[random.nextInt(odd.length)];
    }

    private static void step(CommitLog x, Model m, Random random, int block, int place, String at) {
        int kind = random.nextInt(24);
        if (kind < 9) {
            int v = random.nextInt();
            due.is(at + "write(" + block + ", " + place + ", " + v + ")", bit(x.write(block, place, v)),
                bit(m.write(block, place, v)));
        } else if (kind < 11) {
            due.is(at + "read(" + block + ", " + place + ")", x.read(block, place), m.read(block, place));
        } else if (kind < 14) {
            due.is(at + "disk(" + block + ", " + place + ")", x.disk(block, place), m.disk(block, place));
        } else if (kind < 16) {
            due.is(at + "dirty(" + block + ")", bit(x.dirty(block)), bit(m.dirty(block)));
        } else if (kind < 17) {
            due.is(at + "commit()", bit(x.commit()), bit(m.commit()));
        } else if (kind < 18) {
            boolean really = random.nextInt(4) == 0;
            due.is(at + "revert()", really ? bit(x.revert()) : 0, really ? bit(m.revert()) : 0);
        } else if (kind < 20) {
            int n = 1 + draw(random, 3, 20);
            int share = draw(random, 1000, 20);
            due.is(at + "cut(" + n + ", " + share + ")", bit(x.cut(n, share)), bit(m.cut(n, share)));
        } else if (kind < 22) {
            int share = random.nextInt(3) == 0 ? 1000 : draw(random, 1000, 20);
            due.is(at + "start(" + share + ")", bit(x.start(share)), bit(m.start(share)));
        } else {
            int what = draw(random, 3, 10);
            due.is(at + "state(" + what + ")", x.state(what), m.state(what));
        }
    }

    private static int bit(boolean b) {
        return b ? 1 : 0;
    }

    private record Entry(int number, byte[] bytes) {
    }

    /** Goes through a commit write by write: the log's, the mark, the disk's. */
    private static final class Model {
        private final byte[][] disk = new byte[24][16];
        private final TreeMap<Integer, byte[]> changed = new TreeMap<>();
        private final List<Entry> log = new ArrayList<>();
        private boolean on = true;
        private boolean mark = false;
        private int latest = 0;
        private long commits = 0;
        private long cutAt = -1;
        private int cutShare = -1;

        private static boolean there(int block, int place) {
            return block >= 0 && block <= 23 && place >= 0 && place <= 15;
        }

        boolean write(int block, int place, int v) {
            if (!on || !there(block, place)) {
                return false;
            }
            changed.computeIfAbsent(block, b -> disk[b].clone())[place] = (byte) v;
            return true;
        }

        int read(int block, int place) {
            if (!on || !there(block, place)) {
                return -1;
            }
            return Byte.toUnsignedInt(changed.getOrDefault(block, disk[block])[place]);
        }

        int disk(int block, int place) {
            return there(block, place) ? Byte.toUnsignedInt(disk[block][place]) : -1;
        }

        boolean dirty(int block) {
            return on && changed.containsKey(block);
        }

        boolean commit() {
            if (!on) {
                return false;
            }
            commits++;
            boolean goes = commits == cutAt;
            List<Entry> due = new ArrayList<>();
            changed.forEach((number, bytes) -> due.add(new Entry(number, bytes.clone())));
            changed.clear();
            latest = due.size();
            log.clear();
            if (goes && cutShare < 500) {
                log.addAll(due.subList(0, (int) Math.floor(latest * cutShare / 500.0)));
                on = false;
                return false;
            }
            log.addAll(due);
            mark = true;
            toDisk(goes ? (long) latest * (cutShare - 500) / 500 : latest);
            on = !goes;
            mark = goes;
            return on;
        }

        private void toDisk(long first) {
            log.stream().limit(first).forEach(e -> System.arraycopy(e.bytes(), 0, disk[e.number()], 0, 16));
        }

        boolean revert() {
            if (on) {
                changed.clear();
            }
            return on;
        }

        boolean cut(int n, int share) {
            if (!on || n < 1 || n > 1000 || share < 0 || share > 999) {
                return false;
            }
            cutAt = commits + n;
            cutShare = share;
            return true;
        }

        boolean start(int share) {
            if (on || share < 0 || share > 1000) {
                return false;
            }
            if (mark) {
                toDisk((long) log.size() * share / 1000);
            }
            if (share == 1000) {
                mark = false;
                on = true;
            }
            return on;
        }

        int state(int what) {
            int[] answers = {on ? 1 : 0, mark ? 1 : 0, latest};
            return what >= 0 && what < answers.length ? answers[what] : -1;
        }
    }
}
