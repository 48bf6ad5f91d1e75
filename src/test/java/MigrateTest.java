/** Promises 8 migrate and 11 what: what is against it, in its order. */
public final class MigrateTest {
    public static void main(String[] args) {
        noSuchNumbers();
        order();
        derivedAlready();
        sourceIsKept();
        noMoreItems();
        whatStays();
        Expect.end();
    }

    private static void noSuchNumbers() {
        MigrateSteps x = new MigrateSteps(50, 1);
        Expect.script(x, "w1");
        x.original();
        for (int bad : new int[] {-1, 1, 60, Integer.MIN_VALUE, Integer.MAX_VALUE}) {
            Expect.same("item " + bad, x.migrate(bad, 0), MigrateSteps.NONE);
            Expect.same("script " + bad, x.migrate(0, bad), MigrateSteps.NONE);
        }
        Expect.same("counted()", x.counted(), 0);
        Expect.same("migrate", x.migrate(0, 0), 1);
        x.drop(1);
        Expect.same("a gone item", x.migrate(1, 0), MigrateSteps.NONE);
    }

    /** One script that all is against: each time the first cause is taken away, the next one shows. */
    private static void order() {
        MigrateSteps x = new MigrateSteps(50, 1);
        Expect.script(x, "r0 w1");
        Expect.original(x, 5);
        Expect.same("nothing against it", x.migrate(0, 0), 1);
        x.check(0, false, 2, 6);
        x.check(0, true, 2, 7);
        Expect.same("derived is first", x.migrate(0, 0), -11);
        x.drop(1);
        Expect.same("then the check before", x.migrate(0, 0), -12);
        Expect.original(x, 6);
        Expect.same("then the check behind", x.migrate(2, 0), -17);
        Expect.same("what()", x.what(), -17);
        Expect.tried(x, 6);
        Expect.same("nothing came", x.about(3, 0), MigrateSteps.NONE);
        Expect.script(x, "r1 w1");
        x.check(1, false, 0, 2);
        x.check(1, true, 0, 2);
        Expect.same("before the run", x.migrate(2, 1), -12);
        Expect.script(x, "r1 w1");
        x.check(2, true, 0, 2);
        Expect.same("the run before behind", x.migrate(2, 2), -14);
    }

    private static void derivedAlready() {
        MigrateSteps x = new MigrateSteps(50, 1);
        Expect.script(x, "w1");
        Expect.script(x, "w1");
        x.original();
        x.original();
        Expect.same("first", x.migrate(0, 0), 2);
        Expect.same("again", x.migrate(0, 0), -11);
        Expect.same("what()", x.what(), -11);
        Expect.same("by another script", x.migrate(0, 1), 3);
        Expect.same("what()", x.what(), 0);
        Expect.same("another item", x.migrate(1, 0), 4);
        Expect.same("what came, by the same", x.migrate(2, 0), 5);
        Expect.same("has derived", x.drop(2), MigrateSteps.STATE);
        x.drop(5);
        x.drop(2);
        Expect.same("gone ones do not count", x.migrate(0, 0), 6);
        Expect.same("the new one counts", x.migrate(0, 0), -11);
    }

    private static void sourceIsKept() {
        MigrateSteps x = new MigrateSteps(50, 1);
        Expect.script(x, "r0 a1 w2");
        Expect.original(x, 5, 6);
        x.migrate(0, 0);
        x.migrate(1, 0);
        Expect.bytes(x, 0, 5, 6);
        Expect.bytes(x, 1, 6, 6);
        Expect.bytes(x, 2, 7, 7);
    }

    private static void noMoreItems() {
        MigrateSteps x = new MigrateSteps(50, 1);
        Expect.script(x, "r0 a1 w1");
        Expect.script(x, "r0 w3");
        Expect.script(x, "f1");
        Expect.script(x, "w1");
        x.check(3, true, 0, 2);
        for (int n = 0; n < 59; n++) {
            Expect.original(x, n);
        }
        Expect.same("the last number", x.migrate(7, 0), 59);
        Expect.same("full", x.migrate(8, 1), MigrateSteps.FULL);
        Expect.same("what()", x.what(), MigrateSteps.FULL);
        Expect.same("failed()", x.failed(), MigrateSteps.NONE);
        Expect.tried(x, 8, 8, 8);
        Expect.same("derived is before full", x.migrate(7, 0), -11);
        Expect.same("fails before full", x.migrate(7, 2), -13);
        Expect.same("behind before full", x.migrate(7, 3), -17);
        Expect.same("none before full", x.migrate(60, 3), MigrateSteps.NONE);
        x.drop(59);
        Expect.same("a number is not used again", x.migrate(7, 0), MigrateSteps.FULL);
        Expect.same("nor by an original", x.original(), MigrateSteps.FULL);
        Expect.same("about(60, 0)", x.about(60, 0), MigrateSteps.NONE);
    }

    private static void whatStays() {
        MigrateSteps x = new MigrateSteps(50, 1);
        Expect.script(x, "f1");
        Expect.script(x, "h0");
        x.original();
        Expect.same("what() at first", x.what(), 0);
        x.migrate(0, 0);
        Expect.same("what()", x.what(), -13);
        x.migrate(5, 0);
        x.migrate(0, 5);
        x.goesOn(5, 0);
        x.goesOn(0, 5);
        Expect.same("what() behind NONE", x.what(), -13);
        x.original();
        Expect.same("batch", x.batch(1), 2);
        Expect.same("what() behind batch", x.what(), -13);
        Expect.same("migrate", x.migrate(2, 1), 4);
        Expect.same("what()", x.what(), 0);
        Expect.same("batch that fails", x.batch(0), 0);
        Expect.same("what() behind batch", x.what(), 0);
    }
}
