/** Promise 15: undo. */
public final class UndoTest {
    public static void main(String[] args) {
        theLatestBatch();
        thatIsNotUndone();
        batchesAndUndosMixed();
        itsDerivedItemsAlone();
        thoseWithDerivedStay();
        allStay();
        whatStaysIsOfNoBatch();
        derivedOnesThatAreGone();
        droppedOnesDoNotGo();
        noneIfThereIsNone();
        asManyBatchesAsThereCanBe();
        bytesAreKept();
        Expect.end();
    }

    private static void theLatestBatch() {
        Expect.sentence("The latest BATCH that is not undone is undone: its DERIVED items are GONE");
        MigrateSteps x = BatchTest.withOriginals(2);
        x.batch(0);
        x.batch(1);
        Expect.same("the second", x.undo(), 2);
        Expect.gone(x, "000011");
    }

    private static void thatIsNotUndone() {
        Expect.sentence("The latest BATCH that is not undone");
        MigrateSteps x = BatchTest.withOriginals(3);
        x.batch(0);
        x.batch(2);
        Expect.same("the second", x.undo(), 1);
        Expect.gone(x, "0000001");
        Expect.same("the first", x.undo(), 3);
        Expect.gone(x, "0001111");
        Expect.same("no more", x.undo(), MigrateSteps.NONE);
    }

    private static void batchesAndUndosMixed() {
        Expect.sentence("The latest BATCH that is not undone, behind others that are");
        MigrateSteps x = BatchTest.withOriginals(2);
        x.batch(0);
        x.batch(1);
        x.undo();
        Expect.same("again", x.batch(1), 2);
        Expect.gone(x, "00001100");
        Expect.same("it goes again", x.undo(), 2);
        Expect.gone(x, "00001111");
        Expect.same("the first", x.undo(), 2);
        Expect.gone(x, "00111111");
        Expect.same("a new one", x.batch(0), 2);
        Expect.same("it goes", x.undo(), 2);
        Expect.gone(x, "0011111111");
        Expect.same("no more", x.undo(), MigrateSteps.NONE);
    }

    private static void itsDerivedItemsAlone() {
        Expect.sentence("its DERIVED items, and no others");
        MigrateSteps x = BatchTest.withOriginals(3);
        x.migrate(1, 0);
        x.batch(0);
        x.migrate(0, 1);
        Expect.original(x, 9);
        Expect.same("undo()", x.undo(), 2);
        Expect.gone(x, "00001100");
    }

    private static void thoseWithDerivedStay() {
        Expect.sentence("those that have items derived from them stay: how many went");
        MigrateSteps x = BatchTest.withOriginals(3);
        x.batch(0);
        x.migrate(4, 1);
        Expect.same("two of three go", x.undo(), 2);
        Expect.gone(x, "0001010");
        Expect.same("what stays can be dropped", x.drop(6) + x.drop(4), 2);
    }

    private static void allStay() {
        Expect.sentence("0 if all stay");
        MigrateSteps x = BatchTest.withOriginals(2);
        x.batch(0);
        x.migrate(2, 0);
        x.migrate(3, 0);
        Expect.same("all stay", x.undo(), 0);
        Expect.gone(x, "000000");
        Expect.same("it is undone all the same", x.undo(), MigrateSteps.NONE);
    }

    private static void whatStaysIsOfNoBatch() {
        Expect.sentence("a BATCH that is undone is not undone again");
        MigrateSteps x = BatchTest.withOriginals(2);
        x.batch(0);
        x.migrate(2, 1);
        Expect.same("one stays", x.undo(), 1);
        Expect.same("no more", x.undo(), MigrateSteps.NONE);
        Expect.same("one comes anew", x.batch(0), 1);
        x.drop(4);
        Expect.same("only the new one goes", x.undo(), 1);
        Expect.gone(x, "000111");
    }

    private static void derivedOnesThatAreGone() {
        Expect.sentence("an item that is GONE keeps none");
        MigrateSteps x = BatchTest.withOriginals(1);
        x.batch(0);
        x.migrate(1, 1);
        x.drop(2);
        Expect.same("it goes", x.undo(), 1);
        Expect.gone(x, "011");
    }

    private static void droppedOnesDoNotGo() {
        Expect.sentence("how many went: not those that were GONE before");
        MigrateSteps x = BatchTest.withOriginals(2);
        x.batch(0);
        x.batch(1);
        x.drop(4);
        Expect.same("one was dropped", x.undo(), 1);
        x.drop(2);
        x.drop(3);
        Expect.same("both were dropped", x.undo(), 0);
        Expect.same("no more", x.undo(), MigrateSteps.NONE);
    }

    private static void noneIfThereIsNone() {
        Expect.sentence("NONE if there is none");
        MigrateSteps x = BatchTest.withOriginals(2);
        Expect.same("undo()", x.undo(), MigrateSteps.NONE);
        x.migrate(0, 0);
        x.goesOn(0, 1);
        x.batch(2);
        Expect.same("migrate, goesOn and an empty batch are none", x.undo(), MigrateSteps.NONE);
        Expect.gone(x, "0000");
        Expect.same("and again", x.undo(), MigrateSteps.NONE);
        x.batch(0);
        Expect.same("one behind it", x.undo(), 1);
        Expect.same("and none again", x.undo(), MigrateSteps.NONE);
    }

    private static void asManyBatchesAsThereCanBe() {
        Expect.sentence("The latest BATCH: each of 59");
        MigrateSteps x = new MigrateSteps(50, 0);
        for (int n = 0; n < 10; n++) {
            Expect.script(x, "w1");
        }
        x.original();
        for (int n = 1; n < 60; n++) {
            if (n > 10) {
                x.drop(n - 10);
            }
            Expect.same("batch " + n, x.batch(n % 10), 1);
        }
        Expect.same("full", x.batch(0), 0);
        for (int n = 59; n > 0; n--) {
            Expect.same("undo of batch " + n, x.undo(), n > 49 ? 1 : 0);
            Expect.same("it is gone", x.about(n, 3), 1);
        }
        Expect.same("no more", x.undo(), MigrateSteps.NONE);
    }

    private static void bytesAreKept() {
        Expect.sentence("GONE ones keep their bytes, and the originals are kept");
        MigrateSteps x = BatchTest.withOriginals(2);
        x.batch(1);
        x.undo();
        Expect.bytes(x, 2, 2);
        Expect.bytes(x, 3, 3);
        Expect.bytes(x, 0, 0);
        Expect.bytes(x, 1, 1);
    }
}
