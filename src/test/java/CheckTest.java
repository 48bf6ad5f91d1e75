/** Promise 7 check, and what the four kinds ask before and behind. */
public final class CheckTest {
    public static void main(String[] args) {
        answers();
        kinds();
        allMustHold();
        fullAddsNothing();
        Expect.end();
    }

    private static void answers() {
        MigrateSteps x = new MigrateSteps(50, 1);
        Expect.script(x, "h0");
        Expect.script(x, "h0");
        for (int n = 1; n <= 4; n++) {
            Expect.same("check before", x.check(0, false, n - 1, 255), n);
            Expect.same("check behind", x.check(0, true, n - 1, 0), n);
        }
        Expect.same("fifth before", x.check(0, false, 0, 0), MigrateSteps.FULL);
        Expect.same("fifth behind", x.check(0, true, 3, 255), MigrateSteps.FULL);
        Expect.same("RANGE before FULL", x.check(0, true, 4, 0), MigrateSteps.RANGE);
        Expect.same("another script", x.check(1, false, 0, 0), 1);
        Expect.same("kind -1", x.check(1, false, -1, 0), MigrateSteps.RANGE);
        Expect.same("kind 4", x.check(1, true, 4, 0), MigrateSteps.RANGE);
        Expect.same("kind max", x.check(1, true, Integer.MAX_VALUE, 0), MigrateSteps.RANGE);
        Expect.same("value -1", x.check(1, false, 0, -1), MigrateSteps.RANGE);
        Expect.same("value 256", x.check(1, false, 0, 256), MigrateSteps.RANGE);
        Expect.same("value min", x.check(1, false, 0, Integer.MIN_VALUE), MigrateSteps.RANGE);
        Expect.same("RANGE adds none", x.check(1, false, 0, 0), 2);
        for (int script : new int[] {-1, 2, 10, Integer.MIN_VALUE, Integer.MAX_VALUE}) {
            Expect.same("no script", x.check(script, false, 0, 0), MigrateSteps.NONE);
            Expect.same("NONE before RANGE", x.check(script, true, 9, 999), MigrateSteps.NONE);
        }
    }

    private static void kinds() {
        holds(0, 3, true, 1, 2, 3);
        holds(0, 4, false, 1, 2, 3);
        holds(0, 0, true);
        holds(0, 1, false);
        holds(1, 3, true, 1, 2, 3);
        holds(1, 2, false, 1, 2, 3);
        holds(1, 0, true);
        holds(2, 7, true, 7, 8);
        holds(2, 8, false, 7, 8);
        holds(2, 0, true, 0);
        holds(2, 0, false);
        holds(3, 6, true, 1, 2, 3);
        holds(3, 5, false, 1, 2, 3);
        holds(3, 0, true);
        holds(3, 1, false);
        holds(3, 44, true, 100, 200);
        holds(3, 253, true, 255, 255, 255);
        holds(3, 254, false, 255, 255, 255);
    }

    /** The same row before (it is the item) and behind (a script that copies puts it out). */
    private static void holds(int kind, int value, boolean due, int... row) {
        MigrateSteps x = new MigrateSteps(200, 0);
        Expect.script(x, "h0");
        Expect.script(x, "e5 r0 w1 i1 b0");
        Expect.original(x, row);
        x.check(0, false, kind, value);
        x.check(1, true, kind, value);
        String told = "kind " + kind + " value " + value + " size " + row.length;
        Expect.same(told + " before", x.migrate(0, 0), due ? 1 : -12);
        Expect.same(told + " behind", x.migrate(0, 1), due ? (x.about(1, 3) + 2) : -17);
    }

    private static void allMustHold() {
        for (int broken = -1; broken < 4; broken++) {
            MigrateSteps x = new MigrateSteps(50, 1);
            Expect.script(x, "a9 w1");
            Expect.original(x, 9);
            for (int kind = 0; kind < 4; kind++) {
                int value = kind < 2 ? 1 : 9;
                int bad = kind == 1 ? 0 : value + 1;
                x.check(0, true, kind, kind == broken ? bad : value);
                x.check(0, false, kind, value);
            }
            Expect.same("broken " + broken, x.migrate(0, 0), broken < 0 ? 1 : -17);
        }
    }

    private static void fullAddsNothing() {
        MigrateSteps x = new MigrateSteps(50, 1);
        Expect.script(x, "w1");
        x.original();
        for (int n = 0; n < 4; n++) {
            x.check(0, false, 0, 0);
        }
        x.check(0, false, 0, 99);
        Expect.same("the fifth is not asked", x.migrate(0, 0), 1);
    }
}
