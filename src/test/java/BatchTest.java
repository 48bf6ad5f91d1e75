/** Promise 14: batch. */
public final class BatchTest {
    public static void main(String[] args) {
        howManyCame();
        byNumbers();
        originalsAlone();
        noOriginals();
        whatIsAgainstSome();
        aBatchMore();
        noneCame();
        whatStays();
        noSuchScript();
        noMoreRoom();
        itDoesNotGoOn();
        Expect.end();
    }

    /** Scripts that add 1, add 2, and take only what is 2; originals of one byte, their number. */
    static MigrateSteps withOriginals(int count) {
        MigrateSteps x = new MigrateSteps(50, 1);
        Expect.script(x, "r0 a1 w1");
        Expect.script(x, "r0 a2 w1");
        Expect.script(x, "r0 f2 w1");
        Expect.originals(x, count);
        return x;
    }

    private static void howManyCame() {
        Expect.sentence("All ORIGINALS are migrated by a script: how many DERIVED items came");
        MigrateSteps x = withOriginals(3);
        Expect.same("batch", x.batch(0), 3);
        Expect.same("by 1 too", x.batch(1), 3);
        Expect.gone(x, "000000000");
        Expect.same("by which", x.about(3, 2), 0);
        Expect.same("by which", x.about(8, 2), 1);
        Expect.bytes(x, 5, 3);
        Expect.bytes(x, 8, 4);
    }

    private static void byNumbers() {
        Expect.sentence("by numbers");
        MigrateSteps x = withOriginals(2);
        Expect.same("one between", x.migrate(0, 1), 2);
        Expect.same("an original behind", Expect.original(x, 9), 3);
        Expect.same("batch", x.batch(0), 3);
        Expect.same("first of 0", x.about(4, 1), 0);
        Expect.same("then of 1", x.about(5, 1), 1);
        Expect.same("then of 3", x.about(6, 1), 3);
        Expect.tried(x, 10);
    }

    private static void originalsAlone() {
        Expect.sentence("ORIGINALS, and no DERIVED items");
        MigrateSteps x = withOriginals(1);
        x.migrate(0, 0);
        x.migrate(1, 0);
        Expect.same("batch", x.batch(1), 1);
        Expect.same("of the original", x.about(3, 1), 0);
        Expect.same("what came is left alone", x.batch(1), 0);
        Expect.gone(x, "0000");
    }

    private static void noOriginals() {
        Expect.sentence("how many came: no ORIGINALS, 0");
        MigrateSteps x = withOriginals(0);
        Expect.same("batch", x.batch(0), 0);
        Expect.same("undo()", x.undo(), MigrateSteps.NONE);
    }

    private static void whatIsAgainstSome() {
        Expect.sentence("how many came: not those that something is against");
        MigrateSteps x = withOriginals(4);
        Expect.same("-13 for all but one", x.batch(2), 1);
        Expect.same("of 2", x.about(4, 1), 2);
        x.migrate(1, 0);
        Expect.same("-11 for one", x.batch(0), 3);
        x.check(1, false, 2, 3);
        Expect.same("-12 for all but one", x.batch(1), 1);
        Expect.same("of 3", x.about(9, 1), 3);
        Expect.script(x, "r0 w1");
        x.check(3, true, 2, 1);
        Expect.same("-17 for all but one", x.batch(3), 1);
        Expect.same("of 1", x.about(10, 1), 1);
    }

    private static void aBatchMore() {
        Expect.sentence("if some did, that is a BATCH more");
        MigrateSteps x = withOriginals(3);
        Expect.same("one came", x.batch(2), 1);
        Expect.same("three came", x.batch(0), 3);
        Expect.same("undo()", x.undo(), 3);
        Expect.same("undo()", x.undo(), 1);
        Expect.same("undo()", x.undo(), MigrateSteps.NONE);
    }

    private static void noneCame() {
        Expect.sentence("if none came, that is no BATCH");
        MigrateSteps x = withOriginals(2);
        Expect.same("two came", x.batch(0), 2);
        Expect.same("-11 for all", x.batch(0), 0);
        Expect.same("-13 for all", x.batch(2), 0);
        Expect.same("undo() of the one before", x.undo(), 2);
        Expect.same("undo()", x.undo(), MigrateSteps.NONE);
    }

    private static void whatStays() {
        Expect.sentence("what() stays");
        MigrateSteps x = withOriginals(3);
        x.batch(2);
        Expect.same("what() at first", x.what(), 0);
        x.migrate(0, 2);
        Expect.same("what()", x.what(), -13);
        x.batch(0);
        Expect.same("what() behind a batch", x.what(), -13);
        x.batch(0);
        Expect.same("what() behind one of which none came", x.what(), -13);
        x.migrate(0, 1);
        x.batch(2);
        Expect.same("what() behind one that fails", x.what(), 0);
    }

    private static void noSuchScript() {
        Expect.sentence("NONE");
        MigrateSteps x = withOriginals(3);
        Expect.same("batch(-1)", x.batch(-1), MigrateSteps.NONE);
        Expect.same("batch(3)", x.batch(3), MigrateSteps.NONE);
        Expect.same("batch(10)", x.batch(10), MigrateSteps.NONE);
        for (int bad : Expect.NO_NUMBERS) {
            Expect.same("batch(" + bad + ")", x.batch(bad), MigrateSteps.NONE);
        }
        Expect.same("nothing was run", x.counted(), 0);
        Expect.same("undo()", x.undo(), MigrateSteps.NONE);
    }

    private static void noMoreRoom() {
        Expect.sentence("All ORIGINALS are migrated, though it is FULL");
        MigrateSteps x = withOriginals(40);
        Expect.same("twenty fit", x.batch(0), 20);
        Expect.same("the last of them", x.about(59, 1), 19);
        Expect.same("all were run", x.counted(), 40 * 3);
        Expect.tried(x, 40);
        Expect.same("what() stays", x.what(), 0);
        Expect.same("none fits", x.batch(1), 0);
        Expect.same("all were run", x.counted(), 40 * 3 + 40 * 3);
        Expect.same("undo()", x.undo(), 20);
        Expect.same("undo()", x.undo(), MigrateSteps.NONE);
        Expect.same("numbers are not used again", x.batch(0), 0);
    }

    private static void itDoesNotGoOn() {
        Expect.sentence("migrated by a script, not gone on with");
        MigrateSteps x = withOriginals(2);
        x.chain(0, 1);
        Expect.same("batch", x.batch(0), 2);
        Expect.gone(x, "0000");
    }
}
