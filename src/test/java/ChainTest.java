/** Promise 9: chain. */
public final class ChainTest {
    public static void main(String[] args) {
        behindAScript();
        anotherInstead();
        noneAnyMore();
        noSuchScript();
        noSuchNext();
        backToItself();
        backToItByOthers();
        backToItByAllTen();
        whatIsNoRing();
        aRefusedOneChangesNothing();
        Expect.end();
    }

    static MigrateSteps withScripts(int count) {
        MigrateSteps x = new MigrateSteps(50, 1);
        for (int n = 0; n < count; n++) {
            Expect.script(x, "r0 a" + (n + 1) + " w1");
        }
        return x;
    }

    private static void behindAScript() {
        Expect.sentence("Behind a script another one is to be done: 1");
        MigrateSteps x = withScripts(3);
        Expect.same("chain(0, 2)", x.chain(0, 2), 1);
        Expect.original(x, 10);
        Expect.same("goesOn", x.goesOn(0, 0), 2);
        Expect.same("by which", x.about(2, 2), 2);
        Expect.same("nothing behind 1", x.goesOn(0, 1), 1);
    }

    private static void anotherInstead() {
        Expect.sentence("another one is to be done, instead of the one before");
        MigrateSteps x = withScripts(3);
        Expect.original(x, 10);
        Expect.same("chain(0, 1)", x.chain(0, 1), 1);
        Expect.same("chain(0, 2)", x.chain(0, 2), 1);
        Expect.same("the same again", x.chain(0, 2), 1);
        Expect.same("goesOn", x.goesOn(0, 0), 2);
        Expect.same("by the last told", x.about(2, 2), 2);
    }

    private static void noneAnyMore() {
        Expect.sentence("-1: none any more");
        MigrateSteps x = withScripts(2);
        Expect.original(x, 10);
        Expect.same("where none was", x.chain(0, -1), 1);
        x.chain(0, 1);
        Expect.same("where one was", x.chain(0, -1), 1);
        Expect.same("goesOn", x.goesOn(0, 0), 1);
        Expect.same("the other way now", x.chain(1, 0), 1);
    }

    private static void noSuchScript() {
        Expect.sentence("NONE: no such script");
        MigrateSteps x = withScripts(2);
        for (int bad : Expect.NO_NUMBERS) {
            Expect.same("script " + bad, x.chain(bad, 0), MigrateSteps.NONE);
            Expect.same("none behind " + bad, x.chain(bad, -1), MigrateSteps.NONE);
            Expect.same("itself behind " + bad, x.chain(bad, bad), MigrateSteps.NONE);
        }
        for (int bad : new int[] {-1, 2, 9, 10}) {
            Expect.same("script " + bad, x.chain(bad, 0), MigrateSteps.NONE);
            Expect.same("none behind " + bad, x.chain(bad, -1), MigrateSteps.NONE);
            Expect.same("itself behind " + bad, x.chain(bad, bad), MigrateSteps.NONE);
        }
    }

    private static void noSuchNext() {
        Expect.sentence("NONE: no such next script");
        MigrateSteps x = withScripts(2);
        x.chain(0, 1);
        for (int bad : Expect.NO_NUMBERS) {
            Expect.same("next " + bad, x.chain(0, bad), MigrateSteps.NONE);
        }
        for (int bad : new int[] {2, 9, 10}) {
            Expect.same("next " + bad, x.chain(0, bad), MigrateSteps.NONE);
        }
        Expect.original(x, 10);
        Expect.same("the chain is as it was", x.goesOn(0, 0), 2);
    }

    private static void backToItself() {
        Expect.sentence("STATE if one would come back to it: a script behind itself");
        MigrateSteps x = withScripts(10);
        for (int n = 0; n < 10; n++) {
            Expect.same("chain(" + n + ", " + n + ")", x.chain(n, n), MigrateSteps.STATE);
        }
    }

    private static void backToItByOthers() {
        Expect.sentence("STATE if one would come back to it: RINGS are refused");
        MigrateSteps x = withScripts(4);
        Expect.same("0 to 1", x.chain(0, 1), 1);
        Expect.same("1 to 0", x.chain(1, 0), MigrateSteps.STATE);
        Expect.same("1 to 2", x.chain(1, 2), 1);
        Expect.same("2 to 0", x.chain(2, 0), MigrateSteps.STATE);
        Expect.same("2 to 1", x.chain(2, 1), MigrateSteps.STATE);
        Expect.same("3 to 0", x.chain(3, 0), 1);
        Expect.same("2 to 3", x.chain(2, 3), MigrateSteps.STATE);
        Expect.same("1 to none", x.chain(1, -1), 1);
        Expect.same("2 to 3 now", x.chain(2, 3), 1);
        Expect.same("1 to 2 now", x.chain(1, 2), MigrateSteps.STATE);
    }

    private static void backToItByAllTen() {
        Expect.sentence("STATE if one would come back to it: by all ten scripts");
        MigrateSteps x = withScripts(10);
        for (int n = 0; n < 9; n++) {
            Expect.same("on from " + n, x.chain(n, n + 1), 1);
        }
        for (int n = 0; n < 10; n++) {
            Expect.same("9 to " + n, x.chain(9, n), MigrateSteps.STATE);
        }
        MigrateSteps y = withScripts(10);
        for (int n = 9; n > 0; n--) {
            Expect.same("down from " + n, y.chain(n, n - 1), 1);
        }
        Expect.same("0 to 9", y.chain(0, 9), MigrateSteps.STATE);
    }

    private static void whatIsNoRing() {
        Expect.sentence("STATE only if one would come back");
        MigrateSteps x = withScripts(4);
        Expect.same("0 to 2", x.chain(0, 2), 1);
        Expect.same("1 to 2: two before one", x.chain(1, 2), 1);
        Expect.same("2 to 3", x.chain(2, 3), 1);
        Expect.same("0 to 3: over one", x.chain(0, 3), 1);
        Expect.same("2 to 0: 0 comes to 3 alone", x.chain(2, 0), 1);
    }

    private static void aRefusedOneChangesNothing() {
        Expect.sentence("what is refused changes no CHAIN");
        MigrateSteps x = withScripts(3);
        x.chain(0, 1);
        x.chain(1, 2);
        Expect.same("a ring", x.chain(1, 0), MigrateSteps.STATE);
        Expect.same("itself", x.chain(0, 0), MigrateSteps.STATE);
        Expect.original(x, 10);
        Expect.same("all three", x.goesOn(0, 0), 3);
        Expect.same("by 2 at last", x.about(3, 2), 2);
    }
}
