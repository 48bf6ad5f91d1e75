/** Promise 8 migrate, and what is against it, in its order. */
public final class MigrateTest {
    public static void main(String[] args) {
        theDerivedItem();
        theSourceIsKept();
        noSuchItem();
        aGoneItem();
        noSuchScript();
        derivedAlready();
        derivedByAnotherScript();
        derivedFromAnotherItem();
        derivedOnesThatAreGone();
        checkBefore();
        theRunFails();
        checkBehind();
        derivedIsFirst();
        beforeThenTheRun();
        theRunThenBehind();
        fullBehindAllElse();
        fullIsTried();
        nothingComesOfWhatIsAgainst();
        Expect.end();
    }

    private static void theDerivedItem() {
        Expect.sentence("TO MIGRATE: the DERIVED item's number");
        MigrateSteps x = Expect.with("r0 a1 w2", "h0");
        Expect.original(x, 5);
        Expect.original(x, 6);
        Expect.same("migrate", x.migrate(1, 0), 2);
        Expect.bytes(x, 2, 7, 7);
        Expect.same("of nothing", x.migrate(1, 1), 3);
        Expect.bytes(x, 3);
        Expect.same("of a derived one", x.migrate(2, 0), 4);
        Expect.bytes(x, 4, 8, 8);
    }

    private static void theSourceIsKept() {
        Expect.sentence("originals kept");
        MigrateSteps x = Expect.with("r0 a1 w2", "w40");
        Expect.original(x, 5, 6);
        x.migrate(0, 0);
        x.migrate(1, 0);
        x.migrate(0, 1);
        Expect.bytes(x, 0, 5, 6);
        Expect.bytes(x, 1, 6, 6);
        Expect.bytes(x, 2, 7, 7);
    }

    private static void noSuchItem() {
        Expect.sentence("NONE if there is no such item");
        MigrateSteps x = Expect.with("w1");
        x.original();
        Expect.same("item -1", x.migrate(-1, 0), MigrateSteps.NONE);
        Expect.same("item 1", x.migrate(1, 0), MigrateSteps.NONE);
        Expect.same("item 59", x.migrate(59, 0), MigrateSteps.NONE);
        for (int bad : Expect.NO_NUMBERS) {
            Expect.same("item " + bad, x.migrate(bad, 0), MigrateSteps.NONE);
        }
        Expect.same("nothing was run", x.counted(), 0);
        Expect.same("nothing came", x.about(1, 0), MigrateSteps.NONE);
    }

    private static void aGoneItem() {
        Expect.sentence("NONE if it is GONE");
        MigrateSteps x = Expect.with("w1", "w2");
        x.original();
        x.migrate(0, 0);
        x.drop(1);
        Expect.same("a dropped item", x.migrate(1, 1), MigrateSteps.NONE);
        x.batch(0);
        x.undo();
        Expect.same("an undone item", x.migrate(2, 1), MigrateSteps.NONE);
        Expect.same("nothing came", x.about(3, 0), MigrateSteps.NONE);
    }

    private static void noSuchScript() {
        Expect.sentence("NONE if there is no such script");
        MigrateSteps x = Expect.with("w1");
        x.original();
        Expect.same("script -1", x.migrate(0, -1), MigrateSteps.NONE);
        Expect.same("script 1", x.migrate(0, 1), MigrateSteps.NONE);
        Expect.same("script 9", x.migrate(0, 9), MigrateSteps.NONE);
        Expect.same("script 10", x.migrate(0, 10), MigrateSteps.NONE);
        for (int bad : Expect.NO_NUMBERS) {
            Expect.same("script " + bad, x.migrate(0, bad), MigrateSteps.NONE);
            Expect.same("item and script " + bad, x.migrate(bad, bad), MigrateSteps.NONE);
        }
        Expect.same("nothing was run", x.counted(), 0);
    }

    private static void derivedAlready() {
        Expect.sentence("-11 it was DERIVED by this script already");
        MigrateSteps x = Expect.with("w1");
        x.original();
        Expect.same("first", x.migrate(0, 0), 1);
        Expect.same("again", x.migrate(0, 0), -11);
        Expect.same("and again", x.migrate(0, 0), -11);
        Expect.same("only one was run", x.counted(), 1);
    }

    private static void derivedByAnotherScript() {
        Expect.sentence("-11 by this script");
        MigrateSteps x = Expect.with("w1", "w1");
        x.original();
        Expect.same("by 0", x.migrate(0, 0), 1);
        Expect.same("by 1", x.migrate(0, 1), 2);
        Expect.same("by 0 again", x.migrate(0, 0), -11);
        Expect.same("by 1 again", x.migrate(0, 1), -11);
    }

    private static void derivedFromAnotherItem() {
        Expect.sentence("-11 an item is derived from it so");
        MigrateSteps x = Expect.with("w1");
        x.original();
        x.original();
        Expect.same("of 0", x.migrate(0, 0), 2);
        Expect.same("of 1", x.migrate(1, 0), 3);
        Expect.same("of what was derived so itself", x.migrate(2, 0), 4);
        Expect.same("of what was derived of that", x.migrate(4, 0), 5);
        Expect.same("of 0 again", x.migrate(0, 0), -11);
        Expect.same("of 2 again", x.migrate(2, 0), -11);
    }

    private static void derivedOnesThatAreGone() {
        Expect.sentence("-11 an item that is not GONE");
        MigrateSteps x = Expect.with("w1");
        x.original();
        Expect.same("first", x.migrate(0, 0), 1);
        x.drop(1);
        Expect.same("the dropped one does not count", x.migrate(0, 0), 2);
        Expect.same("the new one counts", x.migrate(0, 0), -11);
        x.drop(2);
        x.batch(0);
        Expect.same("one of a batch counts", x.migrate(0, 0), -11);
        x.undo();
        Expect.same("an undone one does not", x.migrate(0, 0), 4);
    }

    private static void checkBefore() {
        Expect.sentence("-12 a CHECK BEFORE does not hold");
        MigrateSteps x = Expect.with("w1");
        Expect.original(x, 5);
        Expect.original(x, 6);
        x.check(0, false, 2, 6);
        Expect.same("it does not hold", x.migrate(0, 0), -12);
        Expect.same("nothing was run", x.counted(), 0);
        Expect.same("it holds", x.migrate(1, 0), 2);
    }

    private static void theRunFails() {
        Expect.sentence("-13 .. -16 the RUN FAILS by 1 .. 4");
        MigrateSteps x = Expect.with("f1", "r1", "s1", "b0");
        Expect.original(x, 5);
        Expect.same("by 1", x.migrate(0, 0), -13);
        Expect.same("by 2", x.migrate(0, 1), -14);
        Expect.same("by 3", x.migrate(0, 2), -15);
        Expect.same("by 4", x.migrate(0, 3), -16);
    }

    private static void checkBehind() {
        Expect.sentence("-17 a CHECK BEHIND does not hold (what was put out is kept as TRIED)");
        MigrateSteps x = Expect.with("r0 w3");
        Expect.original(x, 5);
        Expect.original(x, 6);
        x.check(0, true, 2, 6);
        Expect.same("it holds", x.migrate(1, 0), 2);
        Expect.same("it does not hold", x.migrate(0, 0), -17);
        Expect.tried(x, 5, 5, 5);
        Expect.same("it was run", x.counted(), 4);
        Expect.same("and did not fail", x.failed(), MigrateSteps.NONE);
    }

    private static void derivedIsFirst() {
        Expect.sentence("the first of these: -11 before -12");
        MigrateSteps x = Expect.with("r0 w1");
        Expect.original(x, 5);
        Expect.same("nothing against it", x.migrate(0, 0), 1);
        x.check(0, false, 2, 6);
        x.check(0, true, 2, 7);
        Expect.same("derived is first", x.migrate(0, 0), -11);
        x.drop(1);
        Expect.same("then the check before", x.migrate(0, 0), -12);
    }

    private static void beforeThenTheRun() {
        Expect.sentence("the first of these: -12 before -13 .. -16");
        MigrateSteps x = Expect.with("f1", "r1", "s1", "b0");
        Expect.original(x, 5);
        for (int script = 0; script < 4; script++) {
            x.check(script, false, 0, 2);
            Expect.same("script " + script, x.migrate(0, script), -12);
        }
        Expect.same("nothing was run", x.counted(), 0);
    }

    private static void theRunThenBehind() {
        Expect.sentence("the first of these: -13 .. -16 before -17");
        MigrateSteps x = Expect.with("f1", "r1", "s1", "b0");
        Expect.original(x, 5);
        for (int script = 0; script < 4; script++) {
            x.check(script, true, 0, 2);
            Expect.same("script " + script, x.migrate(0, script), -13 - script);
        }
    }

    private static MigrateSteps full() {
        MigrateSteps x = Expect.with("r0 w3", "w1", "f1", "w1", "w2");
        x.check(1, false, 0, 2);
        x.check(3, true, 0, 2);
        Expect.originals(x, 59);
        Expect.same("the last number", x.migrate(7, 4), 59);
        return x;
    }

    private static void fullBehindAllElse() {
        Expect.sentence("FULL behind all else");
        MigrateSteps x = full();
        Expect.same("full", x.migrate(8, 0), MigrateSteps.FULL);
        Expect.same("no item before it", x.migrate(60, 0), MigrateSteps.NONE);
        Expect.same("no script before it", x.migrate(8, 5), MigrateSteps.NONE);
        Expect.same("-11 before it", x.migrate(7, 4), -11);
        Expect.same("-12 before it", x.migrate(7, 1), -12);
        Expect.same("-13 before it", x.migrate(7, 2), -13);
        Expect.same("-17 before it", x.migrate(7, 3), -17);
        x.drop(59);
        Expect.same("a gone item before it", x.migrate(59, 0), MigrateSteps.NONE);
        Expect.same("no number is used again", x.migrate(7, 4), MigrateSteps.FULL);
        Expect.same("about(60, 0)", x.about(60, 0), MigrateSteps.NONE);
    }

    private static void fullIsTried() {
        Expect.sentence("FULL (what was put out is TRIED then)");
        MigrateSteps x = full();
        Expect.same("full", x.migrate(8, 0), MigrateSteps.FULL);
        Expect.tried(x, 8, 8, 8);
        Expect.same("it was run", x.counted(), 3);
        Expect.same("and did not fail", x.failed(), MigrateSteps.NONE);
        Expect.same("the same once more", x.migrate(8, 0), MigrateSteps.FULL);
        Expect.bytes(x, 59, 0, 0);
    }

    private static void nothingComesOfWhatIsAgainst() {
        Expect.sentence("Else what was put out is a DERIVED item");
        MigrateSteps x = Expect.with("w1 f1", "w1 r9", "w1 s1", "w1 b0", "w1", "w1");
        x.check(4, false, 0, 1);
        x.check(5, true, 0, 2);
        x.original();
        for (int script = 0; script < 6; script++) {
            x.migrate(0, script);
            Expect.same("script " + script, x.about(1, 0), MigrateSteps.NONE);
        }
        Expect.same("the next number", x.original(), 1);
    }
}
