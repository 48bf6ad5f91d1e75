/** Promise 11: what. */
public final class WhatTest {
    public static void main(String[] args) {
        whatWasAgainst();
        fullToo();
        zeroIfNothingWas();
        ofGoesOn();
        notOfNone();
        notOfOtherCalls();
        nothingWasMetYet();
        Expect.end();
    }

    private static void whatWasAgainst() {
        Expect.sentence("What the latest migrate() met last: what was against it");
        MigrateSteps x = Expect.with("f1", "r1", "s1", "b0", "w1", "w1", "w1");
        x.check(5, false, 0, 2);
        x.check(6, true, 0, 2);
        Expect.original(x, 5);
        x.migrate(0, 4);
        int[] due = {-13, -14, -15, -16, -11, -12, -17};
        for (int script = 0; script < due.length; script++) {
            Expect.same("migrate by " + script, x.migrate(0, script), due[script]);
            Expect.same("what()", x.what(), due[script]);
        }
    }

    private static void fullToo() {
        Expect.sentence("FULL too");
        MigrateSteps x = Expect.with("w1");
        Expect.originals(x, 60);
        Expect.same("migrate", x.migrate(0, 0), MigrateSteps.FULL);
        Expect.same("what()", x.what(), MigrateSteps.FULL);
    }

    private static void zeroIfNothingWas() {
        Expect.sentence("or 0 if nothing was");
        MigrateSteps x = Expect.with("f1", "w1");
        x.original();
        x.migrate(0, 0);
        Expect.same("migrate", x.migrate(0, 1), 1);
        Expect.same("what() behind item 1", x.what(), 0);
        x.migrate(0, 0);
        Expect.same("migrate", x.migrate(1, 1), 2);
        Expect.same("what() behind item 2", x.what(), 0);
    }

    private static void ofGoesOn() {
        Expect.sentence("What the latest goesOn() met last");
        MigrateSteps x = Expect.with("w1", "f1", "w2");
        x.original();
        x.chain(0, 1);
        Expect.same("goesOn", x.goesOn(0, 0), 1);
        Expect.same("what()", x.what(), -13);
        Expect.same("goesOn", x.goesOn(0, 2), 1);
        Expect.same("what() if nothing was", x.what(), 0);
        Expect.same("goesOn", x.goesOn(0, 0), 0);
        Expect.same("what()", x.what(), -11);
        Expect.same("migrate behind it", x.migrate(1, 2), 3);
        Expect.same("what()", x.what(), 0);
    }

    private static void notOfNone() {
        Expect.sentence("(that was not NONE)");
        MigrateSteps x = Expect.with("f1", "w1");
        x.original();
        x.migrate(0, 0);
        x.migrate(5, 0);
        Expect.same("what() behind migrate of no item", x.what(), -13);
        x.migrate(0, 5);
        Expect.same("what() behind migrate by no script", x.what(), -13);
        x.goesOn(5, 0);
        Expect.same("what() behind goesOn of no item", x.what(), -13);
        x.goesOn(0, 5);
        Expect.same("what() behind goesOn by no script", x.what(), -13);
        x.migrate(0, 1);
        x.drop(1);
        x.migrate(0, 0);
        x.migrate(1, 1);
        Expect.same("what() behind migrate of a gone item", x.what(), -13);
        x.goesOn(1, 1);
        Expect.same("what() behind goesOn of a gone item", x.what(), -13);
    }

    private static void notOfOtherCalls() {
        Expect.sentence("the latest migrate() or goesOn(), not another call");
        MigrateSteps x = Expect.with("f1", "w1");
        x.original();
        x.migrate(0, 0);
        x.batch(1);
        Expect.same("what() behind a batch", x.what(), -13);
        x.undo();
        Expect.same("what() behind undo", x.what(), -13);
        x.migrate(0, 1);
        x.batch(0);
        Expect.same("what() behind a batch that fails", x.what(), 0);
        x.drop(2);
        x.original();
        x.check(0, true, 9, 9);
        x.chain(0, 0);
        Expect.wrongScript(x, "q", 0);
        Expect.same("what() behind others", x.what(), 0);
    }

    private static void nothingWasMetYet() {
        Expect.sentence("0 if nothing was against it: none yet");
        MigrateSteps x = Expect.with("f1");
        Expect.same("what()", x.what(), 0);
        x.original();
        x.batch(0);
        Expect.same("what()", x.what(), 0);
    }
}
