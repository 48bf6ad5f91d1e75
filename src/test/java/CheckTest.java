/** Promise 7 check, and what the four kinds ask before and behind. */
public final class CheckTest {
    public static void main(String[] args) {
        howManyOfThese();
        noSuchScript();
        noSuchKind();
        noSuchValue();
        rangeAddsNothing();
        fourBefore();
        fourBehind();
        fullAddsNothing();
        theOrderOfRefusals();
        atLeast();
        atMost();
        theFirstByte();
        thereMustBeOne();
        theSum();
        theSumWraps();
        beforeIsOfWhatItRunsOver();
        behindIsOfWhatItPutsOut();
        allMustHold();
        Expect.end();
    }

    private static MigrateSteps withScripts() {
        MigrateSteps x = new MigrateSteps(50, 1);
        Expect.script(x, "h0");
        Expect.script(x, "h0");
        return x;
    }

    private static void howManyOfThese() {
        Expect.sentence("A CHECK more of a script, BEFORE or BEHIND: how many it has of these");
        MigrateSteps x = withScripts();
        Expect.same("before", x.check(0, false, 0, 0), 1);
        Expect.same("before", x.check(0, false, 0, 0), 2);
        Expect.same("behind", x.check(0, true, 0, 0), 1);
        Expect.same("before", x.check(0, false, 0, 0), 3);
        Expect.same("behind", x.check(0, true, 0, 0), 2);
        Expect.same("of another script, before", x.check(1, false, 0, 0), 1);
        Expect.same("of another script, behind", x.check(1, true, 0, 0), 1);
    }

    private static void noSuchScript() {
        Expect.sentence("NONE");
        MigrateSteps x = withScripts();
        Expect.same("script -1", x.check(-1, false, 0, 0), MigrateSteps.NONE);
        Expect.same("script 2", x.check(2, false, 0, 0), MigrateSteps.NONE);
        Expect.same("script 10", x.check(10, true, 0, 0), MigrateSteps.NONE);
        for (int bad : Expect.NO_NUMBERS) {
            Expect.same("script " + bad, x.check(bad, true, 0, 0), MigrateSteps.NONE);
        }
    }

    private static void noSuchKind() {
        Expect.sentence("RANGE if there is no such kind 0 .. 3");
        MigrateSteps x = withScripts();
        for (int kind = 0; kind < 4; kind++) {
            Expect.same("kind " + kind, x.check(0, false, kind, 0), kind + 1);
        }
        for (int kind : new int[] {-1, 4, 5, 255, 256, Integer.MIN_VALUE, Integer.MAX_VALUE}) {
            Expect.same("kind " + kind, x.check(1, false, kind, 0), MigrateSteps.RANGE);
            Expect.same("kind " + kind + " behind", x.check(1, true, kind, 0), MigrateSteps.RANGE);
        }
    }

    private static void noSuchValue() {
        Expect.sentence("RANGE if the value is not 0 .. 255");
        MigrateSteps x = withScripts();
        Expect.same("value 0", x.check(0, false, 0, 0), 1);
        Expect.same("value 255", x.check(0, false, 0, 255), 2);
        for (int value : new int[] {-1, 256, 257, Integer.MIN_VALUE, Integer.MAX_VALUE}) {
            for (int kind = 0; kind < 4; kind++) {
                Expect.same("value " + value, x.check(1, false, kind, value), MigrateSteps.RANGE);
                Expect.same("value " + value + " behind", x.check(1, true, kind, value), MigrateSteps.RANGE);
            }
        }
    }

    private static void rangeAddsNothing() {
        Expect.sentence("what is RANGE is no CHECK");
        MigrateSteps x = withScripts();
        x.check(0, false, 4, 0);
        x.check(0, false, 0, 256);
        x.check(0, true, -1, 0);
        x.check(0, true, 0, -1);
        Expect.same("the first before", x.check(0, false, 0, 0), 1);
        Expect.same("the first behind", x.check(0, true, 0, 0), 1);
        x.original();
        Expect.same("migrate", x.migrate(0, 0), 1);
    }

    private static void fourBefore() {
        Expect.sentence("at most 4 BEFORE; FULL");
        MigrateSteps x = withScripts();
        for (int n = 1; n <= 4; n++) {
            Expect.same("before", x.check(0, false, n - 1, 255), n);
        }
        Expect.same("a fifth", x.check(0, false, 0, 0), MigrateSteps.FULL);
        Expect.same("once more", x.check(0, false, 3, 255), MigrateSteps.FULL);
        Expect.same("behind there is room", x.check(0, true, 0, 0), 1);
        Expect.same("another script has room", x.check(1, false, 0, 0), 1);
    }

    private static void fourBehind() {
        Expect.sentence("at most 4 BEHIND; FULL");
        MigrateSteps x = withScripts();
        for (int n = 1; n <= 4; n++) {
            Expect.same("behind", x.check(0, true, n - 1, 255), n);
        }
        Expect.same("a fifth", x.check(0, true, 0, 0), MigrateSteps.FULL);
        Expect.same("once more", x.check(0, true, 3, 255), MigrateSteps.FULL);
        Expect.same("before there is room", x.check(0, false, 0, 0), 1);
        Expect.same("another script has room", x.check(1, true, 0, 0), 1);
    }

    private static void fullAddsNothing() {
        Expect.sentence("what is FULL is no CHECK");
        MigrateSteps x = withScripts();
        x.original();
        for (int n = 0; n < 4; n++) {
            x.check(0, false, 0, 0);
            x.check(0, true, 0, 0);
        }
        x.check(0, false, 0, 99);
        x.check(0, true, 0, 99);
        Expect.same("a fifth is not asked", x.migrate(0, 0), 1);
        MigrateSteps y = withScripts();
        y.original();
        for (int n = 0; n < 4; n++) {
            y.check(0, false, 0, 99);
        }
        y.check(0, false, 0, 0);
        Expect.same("a fifth takes no other's place", y.migrate(0, 0), -12);
    }

    private static void theOrderOfRefusals() {
        Expect.sentence("NONE; RANGE; FULL");
        MigrateSteps x = withScripts();
        Expect.same("NONE before RANGE by kind", x.check(2, false, 4, 0), MigrateSteps.NONE);
        Expect.same("NONE before RANGE by value", x.check(-1, true, 0, 256), MigrateSteps.NONE);
        for (int n = 0; n < 4; n++) {
            x.check(0, false, 0, 0);
            x.check(0, true, 0, 0);
        }
        Expect.same("RANGE by kind before FULL", x.check(0, false, 4, 0), MigrateSteps.RANGE);
        Expect.same("RANGE by value before FULL", x.check(0, true, 0, -1), MigrateSteps.RANGE);
    }

    /** The same row before (it is the item) and behind (a script that copies puts it out). */
    private static void holds(int kind, int value, boolean due, int... row) {
        String told = "kind " + kind + " value " + value + " size " + row.length;
        MigrateSteps x = new MigrateSteps(250, 0);
        Expect.script(x, "h0");
        Expect.original(x, row);
        x.check(0, false, kind, value);
        Expect.same(told + " before", x.migrate(0, 0), due ? 1 : -12);
        MigrateSteps y = new MigrateSteps(250, 0);
        Expect.script(y, "e5 r0 w1 i1 b0");
        Expect.original(y, row);
        y.check(0, true, kind, value);
        Expect.same(told + " behind", y.migrate(0, 0), due ? 1 : -17);
    }

    private static void atLeast() {
        Expect.sentence("0 the size is at least a value");
        holds(0, 2, true, 1, 2, 3);
        holds(0, 3, true, 1, 2, 3);
        holds(0, 4, false, 1, 2, 3);
        holds(0, 255, false, 1, 2, 3);
        holds(0, 0, true);
        holds(0, 1, false);
        holds(0, 40, true, new int[40]);
        holds(0, 41, false, new int[40]);
    }

    private static void atMost() {
        Expect.sentence("1 at most");
        holds(1, 4, true, 1, 2, 3);
        holds(1, 3, true, 1, 2, 3);
        holds(1, 2, false, 1, 2, 3);
        holds(1, 255, true, 1, 2, 3);
        holds(1, 0, true);
        holds(1, 0, false, 0);
        holds(1, 40, true, new int[40]);
        holds(1, 39, false, new int[40]);
    }

    private static void theFirstByte() {
        Expect.sentence("2 the first byte is it");
        holds(2, 7, true, 7, 8);
        holds(2, 8, false, 7, 8);
        holds(2, 6, false, 7, 6);
        holds(2, 0, true, 0);
        holds(2, 255, true, 255, 0);
        holds(2, 254, false, 255, 254);
    }

    private static void thereMustBeOne() {
        Expect.sentence("2 (there must be one)");
        holds(2, 0, false);
        holds(2, 255, false);
    }

    private static void theSum() {
        Expect.sentence("3 the sum of all bytes is it");
        holds(3, 6, true, 1, 2, 3);
        holds(3, 5, false, 1, 2, 3);
        holds(3, 7, false, 1, 2, 3);
        holds(3, 0, true);
        holds(3, 1, false);
        holds(3, 40, true, forty(1));
    }

    private static void theSumWraps() {
        Expect.sentence("3 modulo 256");
        holds(3, 255, true, 255);
        holds(3, 0, true, 255, 1);
        holds(3, 255, false, 255, 1);
        holds(3, 1, true, 255, 2);
        holds(3, 44, true, 100, 200);
        holds(3, 253, true, 255, 255, 255);
        holds(3, 254, false, 255, 255, 255);
        holds(3, 216, true, forty(255));
    }

    private static int[] forty(int b) {
        int[] row = new int[40];
        java.util.Arrays.fill(row, b);
        return row;
    }

    private static void beforeIsOfWhatItRunsOver() {
        Expect.sentence("BEFORE (of what it runs over)");
        MigrateSteps x = new MigrateSteps(50, 0);
        Expect.script(x, "a9 w3");
        Expect.original(x, 5);
        x.check(0, false, 2, 5);
        x.check(0, false, 1, 1);
        Expect.same("the item is asked", x.migrate(0, 0), 1);
        Expect.same("a derived one too", x.migrate(1, 0), -12);
    }

    private static void behindIsOfWhatItPutsOut() {
        Expect.sentence("BEHIND (of what it puts out)");
        MigrateSteps x = new MigrateSteps(50, 0);
        Expect.script(x, "a9 w3");
        Expect.original(x, 5);
        x.check(0, true, 2, 9);
        x.check(0, true, 0, 3);
        Expect.same("what is put out is asked", x.migrate(0, 0), 1);
        x.check(0, true, 2, 5);
        Expect.original(x, 5);
        Expect.same("the item is not", x.migrate(2, 0), -17);
    }

    private static void allMustHold() {
        Expect.sentence("a CHECK does not hold: each of the four");
        for (int broken = -1; broken < 4; broken++) {
            Expect.same("before, broken " + broken, withBroken(false, broken), broken < 0 ? 1 : -12);
            Expect.same("behind, broken " + broken, withBroken(true, broken), broken < 0 ? 1 : -17);
        }
    }

    private static int withBroken(boolean behind, int broken) {
        MigrateSteps x = new MigrateSteps(50, 1);
        Expect.script(x, "r0 w1");
        Expect.original(x, 9);
        for (int kind = 0; kind < 4; kind++) {
            int value = kind < 2 ? 1 : 9;
            int bad = kind == 1 ? 0 : value + 1;
            x.check(0, behind, kind, kind == broken ? bad : value);
        }
        return x.migrate(0, 0);
    }
}
