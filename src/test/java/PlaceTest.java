/** Promise 4: place. */
public final class PlaceTest {
    public static void main(String[] args) {
        whereTheLatestWasWrong();
        itStaysUntilTheNextRead();
        noneIfItWasNot();
        noneIfItWasFull();
        noneIfThereWasNone();
        Expect.end();
    }

    private static MigrateSteps fresh() {
        return new MigrateSteps(100, 4);
    }

    private static void whereTheLatestWasWrong() {
        Expect.sentence("Where the text that was read latest was WRONG");
        MigrateSteps x = fresh();
        Expect.wrongScript(x, "h0 q", 3);
        Expect.wrongScript(x, "h256", 1);
        Expect.wrongScript(x, "", 0);
        Expect.wrongScript(x, "h0 h0 h", 7);
    }

    private static void itStaysUntilTheNextRead() {
        Expect.sentence("the text that was read latest, not the one that is told");
        MigrateSteps x = fresh();
        Expect.wrongScript(x, "h0 q", 3);
        Expect.tell(x, "h0");
        Expect.same("place() while told", x.place(), 3);
        x.original();
        x.migrate(0, 0);
        Expect.same("place() again", x.place(), 3);
        Expect.rightScript(x, "", 0);
        x.sign('q');
        Expect.same("place() while a wrong one is told", x.place(), MigrateSteps.NONE);
    }

    private static void noneIfItWasNot() {
        Expect.sentence("NONE if it was not");
        MigrateSteps x = fresh();
        Expect.rightScript(x, "h0", 0);
        Expect.wrongScript(x, "h0 q", 3);
        Expect.rightScript(x, "h0", 1);
    }

    private static void noneIfItWasFull() {
        Expect.sentence("NONE if it was not, though it was FULL");
        MigrateSteps x = fresh();
        for (int n = 0; n < 10; n++) {
            Expect.script(x, "h0");
        }
        Expect.wrongScript(x, "h0 q", 3);
        Expect.rightScript(x, "h0", MigrateSteps.FULL);
    }

    private static void noneIfThereWasNone() {
        Expect.sentence("NONE if there was none");
        MigrateSteps x = fresh();
        Expect.same("place()", x.place(), MigrateSteps.NONE);
        x.sign('q');
        Expect.same("place() of a text that is not read", x.place(), MigrateSteps.NONE);
    }
}
