/** Promise 17: about. */
public final class AboutTest {
    public static void main(String[] args) {
        howManyBytes();
        fromWhich();
        byWhichScript();
        gone();
        theOriginalAtTheBeginning();
        ofGoneOnes();
        noSuchItem();
        noSuchWhat();
        Expect.end();
    }

    /** Originals 0 and 1, of which 2 is derived, of which 3, of which 4. */
    private static MigrateSteps withItems() {
        MigrateSteps x = new MigrateSteps(50, 1);
        Expect.script(x, "w40");
        Expect.script(x, "r0 w2");
        Expect.script(x, "h0");
        Expect.original(x, 5);
        Expect.original(x, 6, 7, 8);
        Expect.same("migrate", x.migrate(1, 1), 2);
        Expect.same("migrate", x.migrate(2, 0), 3);
        Expect.same("migrate", x.migrate(3, 2), 4);
        return x;
    }

    private static void about(MigrateSteps x, int what, int... want) {
        for (int item = 0; item < want.length; item++) {
            Expect.same("about(" + item + ", " + what + ")", x.about(item, what), want[item]);
        }
    }

    private static void howManyBytes() {
        Expect.sentence("what 0: how many bytes");
        about(withItems(), 0, 1, 3, 2, 40, 0);
    }

    private static void fromWhich() {
        Expect.sentence("1: from which it is derived, or -1");
        about(withItems(), 1, -1, -1, 1, 2, 3);
    }

    private static void byWhichScript() {
        Expect.sentence("2: by which script, or -1");
        about(withItems(), 2, -1, -1, 1, 0, 2);
    }

    private static void gone() {
        Expect.sentence("3: 1 if it is GONE, else 0");
        MigrateSteps x = withItems();
        about(x, 3, 0, 0, 0, 0, 0);
        x.drop(4);
        about(x, 3, 0, 0, 0, 0, 1);
        x.drop(3);
        about(x, 3, 0, 0, 0, 1, 1);
    }

    private static void theOriginalAtTheBeginning() {
        Expect.sentence("4: the ORIGINAL at the beginning");
        MigrateSteps x = withItems();
        about(x, 4, 0, 1, 1, 1, 1);
        Expect.same("migrate", x.migrate(0, 0), 5);
        Expect.same("about(5, 4)", x.about(5, 4), 0);
        Expect.same("original()", x.original(), 6);
        Expect.same("about(6, 4)", x.about(6, 4), 6);
    }

    private static void ofGoneOnes() {
        Expect.sentence("Of an item, GONE or not");
        MigrateSteps x = withItems();
        x.drop(4);
        x.drop(3);
        x.drop(2);
        about(x, 0, 1, 3, 2, 40, 0);
        about(x, 1, -1, -1, 1, 2, 3);
        about(x, 2, -1, -1, 1, 0, 2);
        about(x, 4, 0, 1, 1, 1, 1);
    }

    private static void noSuchItem() {
        Expect.sentence("NONE: no such item");
        MigrateSteps x = withItems();
        for (int what = -1; what <= 5; what++) {
            Expect.same("about(-1, " + what + ")", x.about(-1, what), MigrateSteps.NONE);
            Expect.same("about(5, " + what + ")", x.about(5, what), MigrateSteps.NONE);
            for (int bad : Expect.NO_NUMBERS) {
                Expect.same("about(" + bad + ", " + what + ")", x.about(bad, what), MigrateSteps.NONE);
            }
        }
        MigrateSteps y = new MigrateSteps(1, 1);
        Expect.originals(y, 60);
        Expect.same("about(59, 0)", y.about(59, 0), 1);
        Expect.same("about(60, 0)", y.about(60, 0), MigrateSteps.NONE);
    }

    private static void noSuchWhat() {
        Expect.sentence("NONE: no such what");
        MigrateSteps x = withItems();
        for (int what : new int[] {-1, 5, 6, 255, 256, Integer.MIN_VALUE, Integer.MAX_VALUE}) {
            about(x, what, MigrateSteps.NONE, MigrateSteps.NONE, MigrateSteps.NONE);
        }
    }
}
