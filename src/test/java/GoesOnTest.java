/** Promise 10: goesOn. */
public final class GoesOnTest {
    public static void main(String[] args) {
        howManyCame();
        aChainOfOne();
        allTen();
        untilOneIsAgainst();
        noneCame();
        noSuchItem();
        aGoneItem();
        noSuchScript();
        whatWasAgainstTheLast();
        noMoreRoom();
        noBatchComesOfIt();
        Expect.end();
    }

    private static MigrateSteps chained(int count) {
        MigrateSteps x = ChainTest.withScripts(count);
        for (int n = 0; n + 1 < count; n++) {
            x.chain(n, n + 1);
        }
        return x;
    }

    private static void howManyCame() {
        Expect.sentence("TO GO ON: how many items came");
        MigrateSteps x = ChainTest.withScripts(3);
        x.chain(0, 2);
        x.chain(2, 1);
        Expect.original(x, 10);
        Expect.same("goesOn", x.goesOn(0, 0), 3);
        Expect.bytes(x, 1, 11);
        Expect.bytes(x, 2, 14);
        Expect.bytes(x, 3, 16);
        Expect.same("2 is from 1", x.about(2, 1), 1);
        Expect.same("2 is by 2", x.about(2, 2), 2);
        Expect.same("3 is from 2", x.about(3, 1), 2);
        Expect.same("3 is by 1", x.about(3, 2), 1);
        Expect.same("no more came", x.about(4, 0), MigrateSteps.NONE);
        Expect.same("counted()", x.counted(), 9);
        Expect.same("from the middle on", x.goesOn(1, 1), 1);
    }

    private static void aChainOfOne() {
        Expect.sentence("until there is none");
        MigrateSteps x = ChainTest.withScripts(2);
        Expect.original(x, 10);
        Expect.same("goesOn", x.goesOn(0, 0), 1);
        Expect.same("what()", x.what(), 0);
        Expect.same("no more came", x.about(2, 0), MigrateSteps.NONE);
    }

    private static void allTen() {
        Expect.sentence("what comes by the next one in the chain, and so on");
        MigrateSteps x = chained(10);
        Expect.original(x, 0);
        Expect.same("all ten", x.goesOn(0, 0), 10);
        Expect.same("what()", x.what(), 0);
        Expect.bytes(x, 10, 55);
        Expect.same("no more came", x.about(11, 0), MigrateSteps.NONE);
    }

    private static void untilOneIsAgainst() {
        Expect.sentence("until one is against it");
        MigrateSteps x = ChainTest.withScripts(2);
        Expect.script(x, "w1 r9");
        Expect.script(x, "w3");
        x.chain(0, 2);
        x.chain(2, 3);
        Expect.original(x, 10);
        Expect.same("the second fails", x.goesOn(0, 0), 1);
        Expect.same("what()", x.what(), -14);
        Expect.same("failed()", x.failed(), 1);
        Expect.tried(x, 0);
        Expect.same("the third was not run", x.counted(), 3 + 2);
        Expect.same("no more came", x.about(2, 0), MigrateSteps.NONE);
    }

    private static void noneCame() {
        Expect.sentence("how many items came: 0");
        MigrateSteps x = chained(2);
        Expect.original(x, 10);
        x.goesOn(0, 0);
        Expect.same("derived already", x.goesOn(0, 0), 0);
        Expect.same("what()", x.what(), -11);
        x.original();
        Expect.same("the first fails", x.goesOn(3, 0), 0);
        Expect.same("what()", x.what(), -14);
    }

    private static void noSuchItem() {
        Expect.sentence("NONE as migrate(): no such item");
        MigrateSteps x = chained(2);
        Expect.original(x, 10);
        Expect.same("item -1", x.goesOn(-1, 0), MigrateSteps.NONE);
        Expect.same("item 1", x.goesOn(1, 0), MigrateSteps.NONE);
        for (int bad : Expect.NO_NUMBERS) {
            Expect.same("item " + bad, x.goesOn(bad, 0), MigrateSteps.NONE);
        }
        Expect.same("nothing was run", x.counted(), 0);
    }

    private static void aGoneItem() {
        Expect.sentence("NONE as migrate(): GONE");
        MigrateSteps x = chained(2);
        Expect.original(x, 10);
        x.migrate(0, 0);
        x.drop(1);
        Expect.same("a gone item", x.goesOn(1, 0), MigrateSteps.NONE);
    }

    private static void noSuchScript() {
        Expect.sentence("NONE as migrate(): no such script");
        MigrateSteps x = chained(2);
        Expect.original(x, 10);
        Expect.same("script -1", x.goesOn(0, -1), MigrateSteps.NONE);
        Expect.same("script 2", x.goesOn(0, 2), MigrateSteps.NONE);
        Expect.same("script 10", x.goesOn(0, 10), MigrateSteps.NONE);
        for (int bad : Expect.NO_NUMBERS) {
            Expect.same("script " + bad, x.goesOn(0, bad), MigrateSteps.NONE);
        }
        Expect.same("nothing was run", x.counted(), 0);
    }

    private static void whatWasAgainstTheLast() {
        Expect.sentence("what() tells what was against the last one");
        MigrateSteps x = chained(3);
        x.check(1, false, 1, 0);
        Expect.original(x, 10);
        Expect.same("check before", x.goesOn(0, 0), 1);
        Expect.same("what()", x.what(), -12);
        x.check(2, true, 1, 0);
        Expect.same("check behind", x.goesOn(0, 2), 0);
        Expect.same("what()", x.what(), -17);
    }

    private static void noMoreRoom() {
        Expect.sentence("TO GO ON, until it is FULL");
        MigrateSteps x = chained(3);
        Expect.originals(x, 58);
        Expect.same("two fit", x.goesOn(0, 0), 2);
        Expect.same("what()", x.what(), MigrateSteps.FULL);
        Expect.tried(x, 6);
        Expect.same("none fits", x.goesOn(1, 0), 0);
        Expect.same("what()", x.what(), MigrateSteps.FULL);
    }

    private static void noBatchComesOfIt() {
        Expect.sentence("items that came by goesOn() are no BATCH");
        MigrateSteps x = chained(3);
        Expect.original(x, 10);
        x.goesOn(0, 0);
        Expect.same("undo()", x.undo(), MigrateSteps.NONE);
        Expect.gone(x, "0000");
    }
}
