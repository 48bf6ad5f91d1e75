/** Promise 13: counted. */
public final class CountedTest {
    public static void main(String[] args) {
        stepsInAllRuns();
        aCommandThatFailsIsOne();
        theOneThatWouldBeNextIsNone();
        noRunNoStep();
        ofBatchesToo();
        theEndIsNoStep();
        manySteps();
        Expect.end();
    }

    private static void stepsInAllRuns() {
        Expect.sentence("How many steps were done in all runs");
        MigrateSteps x = Expect.withSteps(50, "a1 w1 h0", "e5 r0 w1 i1 b0");
        Expect.same("none yet", x.counted(), 0);
        Expect.original(x, 5, 6);
        x.migrate(0, 0);
        Expect.same("counted()", x.counted(), 3);
        x.migrate(0, 1);
        Expect.same("counted()", x.counted(), 3 + 11);
        x.chain(0, 1);
        Expect.same("goesOn", x.goesOn(1, 0), 2);
        Expect.same("counted()", x.counted(), 14 + 3 + 6);
    }

    private static void aCommandThatFailsIsOne() {
        Expect.sentence("a command that FAILS by 1, 2 or 3 is one");
        MigrateSteps x = Expect.withSteps(50, "a1 f0", "a1 r9", "a1 s9", "a1 g9", "w40 w1");
        x.original();
        for (int script = 0; script < 5; script++) {
            x.migrate(0, script);
            Expect.same("script " + script, x.counted(), 2 * (script + 1));
        }
    }

    private static void theOneThatWouldBeNextIsNone() {
        Expect.sentence("a command that FAILS by 4 is none");
        MigrateSteps x = Expect.withSteps(3, "a1 a1 a1 a1", "b0");
        x.original();
        x.migrate(0, 0);
        Expect.same("counted()", x.counted(), 3);
        x.migrate(0, 1);
        Expect.same("counted()", x.counted(), 6);
        MigrateSteps y = Expect.withSteps(0, "h0");
        y.original();
        y.migrate(0, 0);
        Expect.same("counted() of no steps", y.counted(), 0);
    }

    private static void noRunNoStep() {
        Expect.sentence("steps in runs: -11, -12 and NONE run nothing, -17 and FULL do");
        MigrateSteps x = Expect.withSteps(50, "w1", "w1 h0", "w1 a1 h0");
        x.check(1, false, 0, 2);
        x.check(2, true, 0, 2);
        x.original();
        x.migrate(0, 0);
        x.migrate(0, 0);
        x.migrate(0, 1);
        x.migrate(0, 3);
        x.migrate(3, 0);
        Expect.same("counted()", x.counted(), 1);
        x.migrate(0, 2);
        Expect.same("counted() behind -17", x.counted(), 4);
        for (int n = 2; n < 60; n++) {
            x.original();
        }
        Expect.same("full", x.migrate(5, 0), MigrateSteps.FULL);
        Expect.same("counted() behind FULL", x.counted(), 5);
    }

    private static void ofBatchesToo() {
        Expect.sentence("in all runs, of a batch too");
        MigrateSteps x = Expect.withSteps(50, "r0 f2 w1");
        Expect.originals(x, 3);
        Expect.same("batch", x.batch(0), 1);
        Expect.same("counted()", x.counted(), 2 + 2 + 3);
        x.undo();
        Expect.same("undo takes none back", x.counted(), 7);
    }

    private static void theEndIsNoStep() {
        Expect.sentence("to end behind the last command is no step, h is one");
        MigrateSteps x = Expect.withSteps(50, "a1", "h0", "b9");
        x.original();
        for (int script = 0; script < 3; script++) {
            x.migrate(0, script);
            Expect.same("script " + script, x.counted(), script + 1);
        }
    }

    private static void manySteps() {
        Expect.sentence("How many steps, as many as the calls can do");
        MigrateSteps x = Expect.withSteps(2000, "b0");
        Expect.originals(x, 60);
        for (int n = 1; n <= 300; n++) {
            x.batch(0);
        }
        Expect.same("counted()", x.counted(), 300L * 60 * 2000);
    }
}
