/** Promise 12: failed. */
public final class FailedTest {
    public static void main(String[] args) {
        thePlace();
        theLatestRun();
        noneIfItDidNot();
        notIfChecksAreAgainst();
        noRunNoChange();
        ofABatch();
        noneIfThereWasNone();
        Expect.end();
    }

    private static void thePlace() {
        Expect.sentence("The PLACE of the latest RUN, if that FAILED");
        MigrateSteps x = Expect.withSteps(10, "f1", "w1 r9", "w1 w1 s1", "w1 w1 w1 g1", "w1 w39 w1", "a1 a1 b0");
        Expect.original(x, 5);
        int[] due = {0, 1, 2, 3, 2, 1};
        for (int script = 0; script < due.length; script++) {
            Expect.same("script " + script, x.migrate(0, script) < -12 ? 1 : 0, 1);
            Expect.same("failed() of script " + script, x.failed(), due[script]);
        }
        MigrateSteps y = Expect.withSteps(10, Expect.commands(9, "a1") + " f1");
        y.original();
        y.migrate(0, 0);
        Expect.same("failed() at the tenth", y.failed(), 9);
        MigrateSteps z = new MigrateSteps(40, 0);
        Expect.script(z, Expect.commands(39, "a1") + " f1");
        z.original();
        z.migrate(0, 0);
        Expect.same("failed() at the fortieth", z.failed(), 39);
    }

    private static void theLatestRun() {
        Expect.sentence("of the latest RUN");
        MigrateSteps x = Expect.withSteps(10, "a1 f0", "f1");
        x.original();
        x.migrate(0, 0);
        Expect.same("failed()", x.failed(), 1);
        x.migrate(0, 1);
        Expect.same("failed()", x.failed(), 0);
        x.chain(0, 1);
        x.goesOn(0, 0);
        Expect.same("failed() of goesOn", x.failed(), 1);
    }

    private static void noneIfItDidNot() {
        Expect.sentence("NONE if it did not");
        MigrateSteps x = Expect.withSteps(10, "a1 f0", "w1");
        x.original();
        x.migrate(0, 0);
        Expect.same("migrate", x.migrate(0, 1), 1);
        Expect.same("failed()", x.failed(), MigrateSteps.NONE);
    }

    private static void notIfChecksAreAgainst() {
        Expect.sentence("NONE if it did not: a CHECK BEHIND is no failure of the RUN");
        MigrateSteps x = Expect.withSteps(10, "a1 f0", "w1");
        x.original();
        x.check(1, true, 0, 2);
        x.migrate(0, 0);
        Expect.same("migrate", x.migrate(0, 1), -17);
        Expect.same("failed()", x.failed(), MigrateSteps.NONE);
    }

    private static void noRunNoChange() {
        Expect.sentence("the latest RUN: what is against it before is none");
        MigrateSteps x = Expect.withSteps(10, "a1 f0", "w1", "w2");
        x.original();
        x.check(2, false, 0, 2);
        x.migrate(0, 1);
        x.migrate(0, 0);
        Expect.same("migrate", x.migrate(0, 2), -12);
        Expect.same("failed() behind -12", x.failed(), 1);
        Expect.same("migrate", x.migrate(0, 1), -11);
        Expect.same("failed() behind -11", x.failed(), 1);
        Expect.same("migrate", x.migrate(9, 1), MigrateSteps.NONE);
        Expect.same("failed() behind NONE", x.failed(), 1);
        x.drop(1);
        x.undo();
        Expect.wrongScript(x, "w1 q", 3);
        Expect.same("failed() behind others", x.failed(), 1);
    }

    private static void ofABatch() {
        Expect.sentence("the latest RUN, of a batch too");
        MigrateSteps x = Expect.withSteps(10, "w1 r0 f5");
        Expect.original(x, 6);
        Expect.original(x, 5);
        Expect.same("the last one goes well", x.batch(0), 1);
        Expect.same("failed()", x.failed(), MigrateSteps.NONE);
        x.original();
        Expect.same("the last one fails", x.batch(0), 0);
        Expect.same("failed()", x.failed(), 1);
    }

    private static void noneIfThereWasNone() {
        Expect.sentence("NONE if there was none");
        MigrateSteps x = Expect.withSteps(10, "f1");
        Expect.same("failed()", x.failed(), MigrateSteps.NONE);
        x.check(0, false, 0, 9);
        x.original();
        x.migrate(0, 0);
        Expect.same("failed() behind -12", x.failed(), MigrateSteps.NONE);
    }
}
