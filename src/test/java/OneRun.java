/** One run of one script over three bytes, looked at from all sides. */
final class OneRun {
    private static final int STEPS = 100;
    private static final int CELLS = 4;

    private OneRun() {
    }

    private static MigrateSteps over(String text) {
        MigrateSteps x = new MigrateSteps(STEPS, CELLS);
        Expect.script(x, text);
        Expect.original(x, 10, 20, 30);
        return x;
    }

    /** A run that does not fail: how many steps it did and what it put out. */
    static void gives(String text, int steps, int... out) {
        MigrateSteps x = over(text);
        Expect.same(text, x.migrate(0, 0), 1);
        Expect.same(text + ": failed()", x.failed(), MigrateSteps.NONE);
        Expect.same(text + ": counted()", x.counted(), steps);
        Expect.same(text + ": what()", x.what(), 0);
        Expect.bytes(x, 1, out);
        Expect.tried(x, out);
    }

    /** A run that fails: by what, at which command, after how many steps, and what it put out. */
    static void fails(String text, int by, int place, int steps, int... out) {
        MigrateSteps x = over(text);
        Expect.same(text, x.migrate(0, 0), -12 - by);
        Expect.same(text + ": failed()", x.failed(), place);
        Expect.same(text + ": counted()", x.counted(), steps);
        Expect.same(text + ": what()", x.what(), -12 - by);
        Expect.same(text + ": no item", x.about(1, 0), MigrateSteps.NONE);
        Expect.tried(x, out);
    }
}
