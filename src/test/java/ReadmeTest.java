/** What README.md tells of the class: whoever changes the one changes the other. */
public final class ReadmeTest {
    private static final Due due = new Due();

    public static void main(String[] args) {
        theExample();
        whereTheDocumentLeavesRoom();
        due.end();
    }

    private static void theExample() {
        CommitLog log = new CommitLog();
        due.yes("write(3, 0, 300)", log.write(3, 0, 300));
        due.is("read(3, 0)", log.read(3, 0), 44);
        due.is("disk(3, 0)", log.disk(3, 0), 0);
        due.yes("commit()", log.commit());
        due.is("disk(3, 0) after it", log.disk(3, 0), 44);
        due.yes("write(0, 1, 7)", log.write(0, 1, 7));
        due.yes("write(9, 1, 8)", log.write(9, 1, 8));
        due.yes("cut(1, 500)", log.cut(1, 500));
        due.no("commit() with the cut", log.commit());
        due.is("power", log.state(0), 0);
        due.is("MARK", log.state(1), 1);
        due.is("disk(0, 1)", log.disk(0, 1), 0);
        due.no("start(500)", log.start(500));
        due.is("disk(0, 1) after start(500)", log.disk(0, 1), 7);
        due.is("disk(9, 1) after start(500)", log.disk(9, 1), 0);
        due.yes("start(1000)", log.start(1000));
        due.is("disk(9, 1)", log.disk(9, 1), 8);
        due.is("read(9, 1)", log.read(9, 1), 8);
    }

    private static void whereTheDocumentLeavesRoom() {
        due.is("state(2) of a COMMIT at share 0", Scenes.gone(5, 0).state(2), 5);
        CommitLog x = new CommitLog();
        x.cut(2, 500);
        due.yes("a COMMIT without a DIRTY block", x.commit());
        due.no("the second such", x.commit());
        due.is("its MARK", x.state(1), 1);
    }
}
