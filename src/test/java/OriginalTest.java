/** Promise 6 original, and the numbers of items. */
public final class OriginalTest {
    public static void main(String[] args) {
        itsNumber();
        nothingIsCollectedAnyMore();
        ofNothing();
        numbersAsTheyCome();
        sixtyItems();
        derivedOnesCountToo();
        goneOnesCountToo();
        itStaysCollected();
        Expect.end();
    }

    private static MigrateSteps fresh() {
        return new MigrateSteps(50, 1);
    }

    private static void itsNumber() {
        Expect.sentence("What is collected is an ORIGINAL more: its number");
        MigrateSteps x = fresh();
        Expect.same("original()", Expect.original(x, 5, 6, 7), 0);
        Expect.same("original()", Expect.original(x, 5, 6, 7), 1);
        Expect.same("original()", Expect.original(x, 9), 2);
        Expect.bytes(x, 0, 5, 6, 7);
        Expect.bytes(x, 1, 5, 6, 7);
        Expect.bytes(x, 2, 9);
        Expect.same("derived from none", x.about(2, 1), -1);
    }

    private static void nothingIsCollectedAnyMore() {
        Expect.sentence("nothing is collected any more");
        MigrateSteps x = fresh();
        Expect.original(x, 5, 6);
        x.original();
        Expect.original(x, 7);
        Expect.bytes(x, 0, 5, 6);
        Expect.bytes(x, 1);
        Expect.bytes(x, 2, 7);
    }

    private static void ofNothing() {
        Expect.sentence("an ORIGINAL of nothing that is collected");
        MigrateSteps x = fresh();
        Expect.same("original()", x.original(), 0);
        Expect.same("original()", x.original(), 1);
        Expect.bytes(x, 0);
        Expect.noByte(x, 0, 0);
    }

    private static void numbersAsTheyCome() {
        Expect.sentence("ITEMS are 0 .. 59, as they come");
        MigrateSteps x = fresh();
        Expect.script(x, "w1");
        Expect.same("an original", x.original(), 0);
        Expect.same("a derived one", x.migrate(0, 0), 1);
        Expect.same("an original", x.original(), 2);
        Expect.same("a batch", x.batch(0), 1);
        Expect.same("an original", x.original(), 4);
    }

    private static void sixtyItems() {
        Expect.sentence("FULL behind item 59");
        MigrateSteps x = fresh();
        Expect.originals(x, 60);
        Expect.same("original()", x.original(), MigrateSteps.FULL);
        Expect.same("original()", Expect.original(x, 1), MigrateSteps.FULL);
        Expect.bytes(x, 59, 59);
        Expect.bytes(x, 0, 0);
        Expect.same("about(60, 0)", x.about(60, 0), MigrateSteps.NONE);
    }

    private static void derivedOnesCountToo() {
        Expect.sentence("FULL by DERIVED items too");
        MigrateSteps x = fresh();
        Expect.script(x, "w1");
        Expect.originals(x, 30);
        Expect.same("batch", x.batch(0), 30);
        Expect.same("original()", x.original(), MigrateSteps.FULL);
    }

    private static void goneOnesCountToo() {
        Expect.sentence("an item may be GONE (its number is not used again)");
        MigrateSteps x = fresh();
        Expect.script(x, "w1");
        Expect.originals(x, 58);
        Expect.same("migrate", x.migrate(0, 0), 58);
        Expect.same("drop", x.drop(58), 1);
        Expect.same("the next number", x.original(), 59);
        Expect.same("original()", x.original(), MigrateSteps.FULL);
        Expect.same("it is still GONE", x.about(58, 3), 1);
    }

    /** No item is ever free again, so what stays collected can be told only by FULL again. */
    private static void itStaysCollected() {
        Expect.sentence("FULL (then it stays collected)");
        MigrateSteps x = fresh();
        Expect.originals(x, 60);
        x.octet(7);
        Expect.same("original()", x.original(), MigrateSteps.FULL);
        Expect.same("original()", x.original(), MigrateSteps.FULL);
        Expect.bytes(x, 59, 59);
    }
}
