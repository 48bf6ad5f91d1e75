/** Promises 5 octet, 6 original, 17 about and 18 at: what items hold. */
public final class OriginalTest {
    public static void main(String[] args) {
        collecting();
        lowestEightBits();
        beyondForty();
        noMoreItems();
        aboutItems();
        noSuchByte();
        Expect.end();
    }

    private static void collecting() {
        MigrateSteps x = new MigrateSteps(10, 1);
        Expect.same("original()", Expect.original(x, 5, 6, 7), 0);
        Expect.same("original() of nothing", x.original(), 1);
        Expect.same("original()", Expect.original(x, 9), 2);
        Expect.bytes(x, 0, 5, 6, 7);
        Expect.bytes(x, 1);
        Expect.bytes(x, 2, 9);
    }

    private static void lowestEightBits() {
        MigrateSteps x = new MigrateSteps(10, 1);
        Expect.original(x, 255, 256, -1, 0, Integer.MIN_VALUE + 3);
        Expect.bytes(x, 0, 255, 0, 255, 0, 3);
    }

    private static void beyondForty() {
        MigrateSteps x = new MigrateSteps(10, 1);
        for (int i = 0; i < 45; i++) {
            x.octet(i + 1);
        }
        x.original();
        Expect.same("about(0, 0)", x.about(0, 0), 40);
        Expect.same("at(0, 39)", x.at(0, 39), 40);
        Expect.noByte(x, 0, 40);
        Expect.original(x, 77);
        Expect.bytes(x, 1, 77);
    }

    private static void noMoreItems() {
        MigrateSteps x = new MigrateSteps(10, 1);
        for (int n = 0; n < 60; n++) {
            Expect.same("original()", Expect.original(x, n), n);
        }
        Expect.same("original()", Expect.original(x, 1), MigrateSteps.FULL);
        Expect.same("original()", x.original(), MigrateSteps.FULL);
        Expect.bytes(x, 59, 59);
        Expect.same("about(60, 0)", x.about(60, 0), MigrateSteps.NONE);
    }

    private static void aboutItems() {
        MigrateSteps x = new MigrateSteps(50, 1);
        Expect.script(x, "a1 w1");
        Expect.script(x, "r0 w2");
        Expect.original(x, 5);
        Expect.original(x, 6, 7, 8);
        x.migrate(1, 1);
        x.migrate(2, 0);
        x.migrate(3, 1);
        about(x, 0, 1, -1, -1, 0, 0);
        about(x, 1, 3, -1, -1, 0, 1);
        about(x, 2, 2, 1, 1, 0, 1);
        about(x, 3, 1, 2, 0, 0, 1);
        about(x, 4, 2, 3, 1, 0, 1);
        x.drop(4);
        about(x, 4, 2, 3, 1, 1, 1);
        Expect.bytes(x, 4, 1, 1);
        for (int item : new int[] {-1, 5, 60, Integer.MIN_VALUE, Integer.MAX_VALUE}) {
            Expect.same("about(" + item + ", 3)", x.about(item, 3), MigrateSteps.NONE);
            Expect.same("about(" + item + ", 9)", x.about(item, 9), MigrateSteps.NONE);
        }
        for (int what : new int[] {-1, 5, Integer.MIN_VALUE, Integer.MAX_VALUE}) {
            Expect.same("about(1, " + what + ")", x.about(1, what), MigrateSteps.NONE);
        }
    }

    private static void about(MigrateSteps x, int item, int... want) {
        for (int what = 0; what < want.length; what++) {
            Expect.same("about(" + item + ", " + what + ")", x.about(item, what), want[what]);
        }
    }

    private static void noSuchByte() {
        MigrateSteps x = new MigrateSteps(50, 1);
        Expect.script(x, "w3");
        Expect.original(x, 5, 6);
        x.original();
        x.migrate(0, 0);
        x.drop(2);
        Expect.noByte(x, 0, 2);
        Expect.noByte(x, 0, -1);
        Expect.noByte(x, 0, Integer.MIN_VALUE);
        Expect.noByte(x, 0, Integer.MAX_VALUE);
        Expect.noByte(x, 1, 0);
        Expect.noByte(x, 2, 3);
        for (int item : new int[] {-1, 3, 60, Integer.MIN_VALUE, Integer.MAX_VALUE}) {
            Expect.same("at(" + item + ", 0)", x.at(item, 0), MigrateSteps.NONE);
            Expect.same("at(" + item + ", 99)", x.at(item, 99), MigrateSteps.NONE);
            Expect.same("at(" + item + ", -1)", x.at(item, -1), MigrateSteps.NONE);
        }
    }
}
