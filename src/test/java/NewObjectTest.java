/** Promise 1: a new object, and the limits of its steps and cells. */
public final class NewObjectTest {
    public static void main(String[] args) {
        nothingIsThere();
        steps(-1, 0);
        steps(Integer.MIN_VALUE, 0);
        steps(0, 0);
        steps(1, 1);
        steps(1999, 1999);
        steps(2000, 2000);
        steps(2001, 2000);
        steps(Integer.MAX_VALUE, 2000);
        cells(-1, 0);
        cells(Integer.MIN_VALUE, 0);
        cells(0, 0);
        cells(1, 1);
        cells(31, 31);
        cells(32, 32);
        cells(33, 32);
        cells(Integer.MAX_VALUE, 32);
        objectsAreApart();
        Expect.end();
    }

    private static void nothingIsThere() {
        MigrateSteps x = new MigrateSteps(10, 10);
        Expect.same("place()", x.place(), MigrateSteps.NONE);
        Expect.same("what()", x.what(), 0);
        Expect.same("failed()", x.failed(), MigrateSteps.NONE);
        Expect.same("counted()", x.counted(), 0);
        Expect.same("tried(0)", x.tried(0), MigrateSteps.NONE);
        Expect.same("undo()", x.undo(), MigrateSteps.NONE);
        Expect.same("batch(0)", x.batch(0), MigrateSteps.NONE);
        Expect.same("check(0, ..)", x.check(0, false, 0, 0), MigrateSteps.NONE);
        Expect.same("chain(0, -1)", x.chain(0, -1), MigrateSteps.NONE);
        Expect.same("migrate(0, 0)", x.migrate(0, 0), MigrateSteps.NONE);
        Expect.same("goesOn(0, 0)", x.goesOn(0, 0), MigrateSteps.NONE);
        Expect.same("drop(0)", x.drop(0), MigrateSteps.NONE);
        Expect.same("about(0, 0)", x.about(0, 0), MigrateSteps.NONE);
        Expect.same("at(0, 0)", x.at(0, 0), MigrateSteps.NONE);
        Expect.same("first script", Expect.script(x, "h0"), 0);
        Expect.same("first item", x.original(), 0);
    }

    private static void steps(int asked, int due) {
        MigrateSteps x = new MigrateSteps(asked, 1);
        Expect.script(x, "b0");
        x.original();
        Expect.same("endless with steps " + asked, x.migrate(0, 0), -16);
        Expect.same("counted() with steps " + asked, x.counted(), due);
    }

    private static void cells(int asked, int due) {
        MigrateSteps x = new MigrateSteps(10, asked);
        x.original();
        if (due > 0) {
            Expect.script(x, "s" + (due - 1) + " g" + (due - 1));
            Expect.same("last cell of " + asked, x.migrate(0, 0), 1);
        } else {
            Expect.script(x, "h0");
        }
        Expect.script(x, "s" + due);
        Expect.script(x, "g" + due);
        Expect.same("s behind the cells of " + asked, x.migrate(0, 1), -15);
        Expect.same("g behind the cells of " + asked, x.migrate(0, 2), -15);
    }

    private static void objectsAreApart() {
        MigrateSteps x = new MigrateSteps(10, 10);
        MigrateSteps y = new MigrateSteps(10, 10);
        Expect.script(x, "a7 s0 w1");
        Expect.original(x, 1, 2);
        x.migrate(0, 0);
        Expect.same("counted() of another", y.counted(), 0);
        Expect.same("tried(0) of another", y.tried(0), MigrateSteps.NONE);
        Expect.same("about(0, 0) of another", y.about(0, 0), MigrateSteps.NONE);
        Expect.same("check of another", y.check(0, true, 0, 0), MigrateSteps.NONE);
    }
}
