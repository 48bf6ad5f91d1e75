/** Promise 1: a new object. */
public final class NewObjectTest {
    public static void main(String[] args) {
        stepsOfARun();
        fewerOrMoreSteps();
        cells();
        fewerOrMoreCells();
        noScripts();
        noItems();
        objectsAreApart();
        Expect.end();
    }

    private static void stepsOfARun() {
        Expect.sentence("STEPS of a run, 0 .. 2000");
        steps(0, 0);
        steps(1, 1);
        steps(1999, 1999);
        steps(2000, 2000);
    }

    private static void fewerOrMoreSteps() {
        Expect.sentence("STEPS: what is less or more is the nearest");
        steps(-1, 0);
        steps(Integer.MIN_VALUE, 0);
        steps(2001, 2000);
        steps(2256, 2000);
        steps(Integer.MAX_VALUE, 2000);
    }

    private static void cells() {
        Expect.sentence("CELLS, 0 .. 32");
        cells(0, 0);
        cells(1, 1);
        cells(31, 31);
        cells(32, 32);
    }

    private static void fewerOrMoreCells() {
        Expect.sentence("CELLS: what is less or more is the nearest");
        cells(-1, 0);
        cells(Integer.MIN_VALUE, 0);
        cells(33, 32);
        cells(256, 32);
        cells(Integer.MAX_VALUE, 32);
    }

    private static void noScripts() {
        Expect.sentence("no scripts");
        MigrateSteps x = new MigrateSteps(10, 10);
        Expect.original(x, 1);
        Expect.same("check(0, ..)", x.check(0, false, 0, 0), MigrateSteps.NONE);
        Expect.same("chain(0, -1)", x.chain(0, -1), MigrateSteps.NONE);
        Expect.same("migrate(0, 0)", x.migrate(0, 0), MigrateSteps.NONE);
        Expect.same("goesOn(0, 0)", x.goesOn(0, 0), MigrateSteps.NONE);
        Expect.same("batch(0)", x.batch(0), MigrateSteps.NONE);
        Expect.same("the first script", Expect.script(x, "h0"), 0);
    }

    private static void noItems() {
        Expect.sentence("no items");
        MigrateSteps x = new MigrateSteps(10, 10);
        Expect.script(x, "h0");
        Expect.same("migrate(0, 0)", x.migrate(0, 0), MigrateSteps.NONE);
        Expect.same("goesOn(0, 0)", x.goesOn(0, 0), MigrateSteps.NONE);
        Expect.same("batch(0)", x.batch(0), 0);
        Expect.same("undo()", x.undo(), MigrateSteps.NONE);
        Expect.same("drop(0)", x.drop(0), MigrateSteps.NONE);
        Expect.same("about(0, 0)", x.about(0, 0), MigrateSteps.NONE);
        Expect.at(x, 0, 0, MigrateSteps.NONE);
        Expect.same("the first item", x.original(), 0);
        Expect.same("it is empty", x.about(0, 0), 0);
    }

    private static void objectsAreApart() {
        Expect.sentence("a new object has nothing of another one");
        MigrateSteps x = new MigrateSteps(10, 10);
        MigrateSteps y = new MigrateSteps(10, 10);
        Expect.script(x, "a7 s0 w1");
        Expect.original(x, 1, 2);
        x.migrate(0, 0);
        x.octet(5);
        x.sign('h');
        Expect.same("counted() of another", y.counted(), 0);
        Expect.same("tried(0) of another", y.tried(0), MigrateSteps.NONE);
        Expect.same("check of another", y.check(0, true, 0, 0), MigrateSteps.NONE);
        Expect.wrongScript(y, "", 0);
        Expect.same("original() of another", y.original(), 0);
        Expect.same("about(0, 0) of another", y.about(0, 0), 0);
    }

    /** An endless run does all the steps there are. */
    private static void steps(int asked, int due) {
        MigrateSteps x = new MigrateSteps(asked, 1);
        Expect.script(x, "b0");
        x.original();
        Expect.same("endless with steps " + asked, x.migrate(0, 0), -16);
        Expect.same("counted() with steps " + asked, x.counted(), due);
    }

    private static void cells(int asked, int due) {
        MigrateSteps x = new MigrateSteps(10, asked);
        x.original();
        Expect.script(x, "s" + due);
        Expect.script(x, "g" + due);
        Expect.same("s behind the cells of " + asked, x.migrate(0, 0), -15);
        Expect.same("g behind the cells of " + asked, x.migrate(0, 1), -15);
        if (due > 0) {
            Expect.script(x, "a9 s" + (due - 1) + " a1 g" + (due - 1) + " w1");
            Expect.same("the last cell of " + asked, x.migrate(0, 2), 1);
            Expect.bytes(x, 1, 9);
        }
    }
}
