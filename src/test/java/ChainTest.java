/** Promises 9 chain and 10 goesOn. */
public final class ChainTest {
    public static void main(String[] args) {
        noSuchScripts();
        rings();
        changing();
        goingOn();
        stopping();
        noMoreItems();
        longest();
        Expect.end();
    }

    private static MigrateSteps withScripts(int count) {
        MigrateSteps x = new MigrateSteps(50, 1);
        for (int n = 0; n < count; n++) {
            Expect.script(x, "r0 a" + (n + 1) + " w1");
        }
        return x;
    }

    private static void noSuchScripts() {
        MigrateSteps x = withScripts(2);
        for (int bad : new int[] {-2, 2, 10, Integer.MIN_VALUE, Integer.MAX_VALUE}) {
            Expect.same("script " + bad, x.chain(bad, 0), MigrateSteps.NONE);
            Expect.same("next " + bad, x.chain(0, bad), MigrateSteps.NONE);
            Expect.same("both " + bad, x.chain(bad, bad), MigrateSteps.NONE);
            Expect.same("none behind " + bad, x.chain(bad, -1), MigrateSteps.NONE);
        }
        Expect.same("script -1", x.chain(-1, 0), MigrateSteps.NONE);
        Expect.same("script -1, next -1", x.chain(-1, -1), MigrateSteps.NONE);
        Expect.same("none where none was", x.chain(0, -1), 1);
    }

    private static void rings() {
        MigrateSteps x = withScripts(10);
        Expect.same("itself", x.chain(0, 0), MigrateSteps.STATE);
        Expect.same("0 to 1", x.chain(0, 1), 1);
        Expect.same("1 to 0", x.chain(1, 0), MigrateSteps.STATE);
        for (int n = 1; n < 9; n++) {
            Expect.same("on", x.chain(n, n + 1), 1);
        }
        for (int n = 0; n < 10; n++) {
            Expect.same("9 to " + n, x.chain(9, n), MigrateSteps.STATE);
        }
        Expect.same("5 to 2", x.chain(5, 2), MigrateSteps.STATE);
        Expect.same("2 to 5", x.chain(2, 5), 1);
        Expect.same("4 to 3, a ring", x.chain(4, 3), MigrateSteps.STATE);
        Expect.same("9 to 3, no ring but 3 comes to 9", x.chain(9, 3), MigrateSteps.STATE);
        Expect.same("5 to none", x.chain(5, -1), 1);
        Expect.same("9 to 2 now", x.chain(9, 2), 1);
    }

    private static void changing() {
        MigrateSteps x = withScripts(3);
        Expect.original(x, 10);
        x.chain(0, 1);
        Expect.same("another next", x.chain(0, 2), 1);
        Expect.same("the same again", x.chain(0, 2), 1);
        Expect.same("two came", x.goesOn(0, 0), 2);
        Expect.same("by the last told", x.about(2, 2), 2);
        Expect.same("a refused one", x.chain(0, 0), MigrateSteps.STATE);
        Expect.original(x, 20);
        Expect.same("changes nothing", x.goesOn(3, 0), 2);
        x.chain(0, -1);
        Expect.original(x, 30);
        Expect.same("none any more", x.goesOn(6, 0), 1);
    }

    private static void goingOn() {
        MigrateSteps x = withScripts(3);
        x.chain(0, 2);
        x.chain(2, 1);
        Expect.original(x, 10);
        Expect.same("goesOn", x.goesOn(0, 0), 3);
        Expect.same("what()", x.what(), 0);
        Expect.bytes(x, 1, 11);
        Expect.bytes(x, 2, 14);
        Expect.bytes(x, 3, 16);
        Expect.same("from 1", x.about(2, 1), 1);
        Expect.same("by 2", x.about(2, 2), 2);
        Expect.same("from 2", x.about(3, 1), 2);
        Expect.same("root", x.about(3, 4), 0);
        Expect.same("counted()", x.counted(), 9);
        Expect.same("migrate does not go on", x.migrate(1, 0), 4);
        Expect.same("only one came", x.about(5, 0), MigrateSteps.NONE);
        Expect.same("no batch comes of it", x.undo(), MigrateSteps.NONE);
    }

    private static void stopping() {
        MigrateSteps x = withScripts(2);
        Expect.script(x, "w1 r9");
        Expect.original(x, 10);
        x.chain(0, 1);
        x.chain(1, 2);
        Expect.same("the third fails", x.goesOn(0, 0), 2);
        Expect.same("what()", x.what(), -14);
        Expect.same("failed()", x.failed(), 1);
        Expect.tried(x, 0);
        Expect.same("derived already", x.goesOn(0, 0), 0);
        Expect.same("what()", x.what(), -11);
        Expect.same("derived already behind", x.goesOn(0, 1), 1);
        Expect.same("what()", x.what(), -14);
        x.check(1, false, 1, 0);
        Expect.original(x, 10);
        Expect.same("check before", x.goesOn(4, 0), 1);
        Expect.same("what()", x.what(), -12);
        for (int bad : new int[] {-1, 6, 60, Integer.MIN_VALUE, Integer.MAX_VALUE}) {
            Expect.same("item " + bad, x.goesOn(bad, 0), MigrateSteps.NONE);
            Expect.same("script " + bad, x.goesOn(0, bad), MigrateSteps.NONE);
        }
        Expect.same("what() stays", x.what(), -12);
        x.drop(5);
        Expect.same("a gone item", x.goesOn(5, 0), MigrateSteps.NONE);
    }

    private static void noMoreItems() {
        MigrateSteps x = withScripts(3);
        x.chain(0, 1);
        x.chain(1, 2);
        for (int n = 0; n < 58; n++) {
            Expect.original(x, n);
        }
        Expect.same("two fit", x.goesOn(0, 0), 2);
        Expect.same("what()", x.what(), MigrateSteps.FULL);
        Expect.tried(x, 6);
        Expect.same("none fits", x.goesOn(1, 0), 0);
        Expect.same("what()", x.what(), MigrateSteps.FULL);
    }

    private static void longest() {
        MigrateSteps x = withScripts(10);
        for (int n = 9; n > 0; n--) {
            Expect.same("down", x.chain(n, n - 1), 1);
        }
        Expect.original(x, 0);
        Expect.same("all ten", x.goesOn(0, 9), 10);
        Expect.same("what()", x.what(), 0);
        Expect.bytes(x, 10, 55);
    }
}
