/** Promise 19: tried. */
public final class TriedTest {
    public static void main(String[] args) {
        whatWasPutOut();
        theLatestRun();
        asFarAsThatCame();
        noRunNoChange();
        triedToo();
        fortyBytes();
        noSuchByte();
        noRunYet();
        itIsNotTheItem();
        Expect.end();
    }

    private static void whatWasPutOut() {
        Expect.sentence("Byte i of what was put out by the latest RUN");
        MigrateSteps x = Expect.with("w1 a255 w1 a129 w1");
        x.original();
        x.migrate(0, 0);
        Expect.tried(x, 0, 255, 128);
    }

    private static void theLatestRun() {
        Expect.sentence("by the latest RUN");
        MigrateSteps x = Expect.with("a1 w3", "a2 w1", "h0", "r0 a3 w1");
        x.original();
        x.migrate(0, 0);
        Expect.tried(x, 1, 1, 1);
        x.migrate(0, 1);
        Expect.tried(x, 2);
        x.migrate(0, 2);
        Expect.tried(x);
        x.chain(0, 1);
        x.goesOn(1, 0);
        Expect.tried(x, 2);
        Expect.original(x, 9);
        Expect.same("batch", x.batch(3), 1);
        Expect.tried(x, 12);
    }

    private static void asFarAsThatCame() {
        Expect.sentence("as far as that came");
        MigrateSteps x = Expect.with("a1 w2 f0 w1", "a2 w1 r0 w1", "a3 w1 s1 w1", "a4 w1 b1");
        x.original();
        x.migrate(0, 0);
        Expect.tried(x, 1, 1);
        x.migrate(0, 1);
        Expect.tried(x, 2);
        x.migrate(0, 2);
        Expect.tried(x, 3);
        MigrateSteps y = new MigrateSteps(4, 1);
        Expect.script(y, "a4 w1 w1 w1 w1");
        y.original();
        y.migrate(0, 0);
        Expect.tried(y, 4, 4, 4);
        MigrateSteps z = new MigrateSteps(0, 1);
        Expect.script(z, "w1");
        z.original();
        z.migrate(0, 0);
        Expect.tried(z);
    }

    private static void noRunNoChange() {
        Expect.sentence("the latest RUN: what is against it before is none");
        MigrateSteps x = Expect.with("a1 w2 f0", "w1", "w3");
        x.check(2, false, 0, 1);
        x.original();
        x.migrate(0, 1);
        x.migrate(0, 0);
        Expect.same("migrate", x.migrate(0, 1), -11);
        Expect.tried(x, 1, 1);
        Expect.same("migrate", x.migrate(0, 2), -12);
        Expect.tried(x, 1, 1);
        Expect.same("migrate", x.migrate(9, 2), MigrateSteps.NONE);
        Expect.tried(x, 1, 1);
        Expect.original(x, 8, 8, 8);
        x.drop(1);
        Expect.wrongScript(x, "q", 0);
        Expect.tried(x, 1, 1);
    }

    private static void triedToo() {
        Expect.sentence("(TRIED, too)");
        MigrateSteps x = Expect.with("a1 w2", "a2 w3");
        x.check(0, true, 0, 3);
        Expect.originals(x, 60);
        Expect.same("a check behind", x.migrate(0, 0), -17);
        Expect.tried(x, 1, 1);
        Expect.same("full", x.migrate(0, 1), MigrateSteps.FULL);
        Expect.tried(x, 2, 2, 2);
    }

    private static void fortyBytes() {
        Expect.sentence("Byte i: of 40");
        MigrateSteps x = Expect.with("a1 w39 a1 w1", "a1 w39 a1 w9");
        x.original();
        for (int script = 0; script < 2; script++) {
            x.migrate(0, script);
            Expect.same("tried(0)", x.tried(0), 1);
            Expect.same("tried(38)", x.tried(38), 1);
            Expect.same("tried(39)", x.tried(39), 2);
            Expect.same("tried(40)", x.tried(40), MigrateSteps.NONE);
        }
    }

    private static void noSuchByte() {
        Expect.sentence("NONE");
        MigrateSteps x = Expect.with("a1 w40", "a2 w3");
        x.original();
        x.migrate(0, 0);
        x.migrate(0, 1);
        for (int i : new int[] {-1, 3, 4, 39, 40, 255, 256, Integer.MIN_VALUE, Integer.MAX_VALUE}) {
            Expect.same("tried(" + i + ")", x.tried(i), MigrateSteps.NONE);
        }
    }

    private static void noRunYet() {
        Expect.sentence("NONE: no RUN yet");
        MigrateSteps x = Expect.with("w1");
        Expect.original(x, 5);
        x.octet(6);
        for (int i : new int[] {-1, 0, 1, 39, 40, Integer.MIN_VALUE, Integer.MAX_VALUE}) {
            Expect.same("tried(" + i + ")", x.tried(i), MigrateSteps.NONE);
        }
    }

    private static void itIsNotTheItem() {
        Expect.sentence("what was put out is kept by the item, whatever comes behind");
        MigrateSteps x = Expect.with("a1 w3", "a2 w4 f0");
        x.original();
        x.migrate(0, 0);
        x.migrate(0, 1);
        Expect.tried(x, 2, 2, 2, 2);
        Expect.bytes(x, 1, 1, 1, 1);
    }
}
