/** Each command of a run, and promises 12 failed, 13 counted and 19 tried. */
public final class RunTest {
    private static final int[] BYTES = {10, 20, 30};

    public static void main(String[] args) {
        reading();
        putting();
        reckoning();
        cells();
        jumps();
        ends();
        steps();
        failuresAreOfTheLatestRun();
        runsStartAnew();
        Expect.end();
    }

    /** A run that does not fail: what it puts out and how many steps it did. */
    private static void gives(String text, int steps, int... out) {
        MigrateSteps x = new MigrateSteps(100, 4);
        Expect.script(x, text);
        Expect.original(x, BYTES);
        Expect.same(text, x.migrate(0, 0), 1);
        Expect.same(text + ": failed()", x.failed(), MigrateSteps.NONE);
        Expect.same(text + ": counted()", x.counted(), steps);
        Expect.same(text + ": what()", x.what(), 0);
        Expect.bytes(x, 1, out);
        Expect.tried(x, out);
    }

    /** A run that fails: by what, at which command, after how many steps, and what it put out. */
    private static void fails(String text, int by, int place, int steps, int... out) {
        MigrateSteps x = new MigrateSteps(100, 4);
        Expect.script(x, text);
        Expect.original(x, BYTES);
        Expect.same(text, x.migrate(0, 0), -12 - by);
        Expect.same(text + ": failed()", x.failed(), place);
        Expect.same(text + ": counted()", x.counted(), steps);
        Expect.same(text + ": what()", x.what(), -12 - by);
        Expect.same(text + ": no item", x.about(1, 0), MigrateSteps.NONE);
        Expect.tried(x, out);
    }

    private static void reading() {
        gives("r0 w1 r2 w1", 4, 10, 30);
        gives("i1 r0 w1 r1 w1", 5, 20, 30);
        gives("i1 i1 r0 w1 k0 r0 w1 k1 r0 w1", 10, 30, 10, 20);
        fails("w1 r3", 2, 1, 2, 0);
        fails("i3 r0", 2, 1, 2);
        fails("i255 r255", 2, 1, 2);
        fails("i2 r0 w1 r1", 2, 3, 4, 30);
    }

    private static void putting() {
        gives("r1 w3", 2, 20, 20, 20);
        gives("r1 w0", 2);
        MigrateSteps x = new MigrateSteps(100, 4);
        Expect.script(x, "a3 w40");
        Expect.script(x, "a3 w41");
        Expect.script(x, "a3 w39 a1 w2 a1 w1");
        Expect.script(x, "w40 w0 a1 w1");
        Expect.script(x, "a5 w255");
        x.original();
        Expect.same("w40", x.migrate(0, 0), 1);
        Expect.same("w40 size", x.about(1, 0), 40);
        Expect.same("w41", x.migrate(0, 1), -15);
        Expect.same("w41 failed()", x.failed(), 1);
        Expect.same("w41 tried(39)", x.tried(39), 3);
        Expect.same("w41 tried(40)", x.tried(40), MigrateSteps.NONE);
        Expect.same("w39 w2", x.migrate(0, 2), -15);
        Expect.same("w39 w2 failed()", x.failed(), 3);
        Expect.same("w39 w2 tried(38)", x.tried(38), 3);
        Expect.same("w39 w2 tried(39)", x.tried(39), 4);
        Expect.same("w0 when full", x.migrate(0, 3), -15);
        Expect.same("w0 when full failed()", x.failed(), 3);
        Expect.same("w255", x.migrate(0, 4), -15);
        Expect.same("w255 tried(39)", x.tried(39), 5);
        Expect.same("counted()", x.counted(), 2 + 2 + 4 + 4 + 2);
    }

    private static void reckoning() {
        gives("a255 w1 a1 w1 a7 w1", 6, 255, 0, 7);
        gives("a200 a100 w1", 3, 44);
        gives("x1 r0 w1", 3, 10);
        gives("a1 r0 w1", 3, 10);
        gives("a12 x10 w1 x255 w1 x0 w1", 6 + 1, 6, 249, 249);
        fails("a5 f5 f6", 1, 2, 3);
        fails("f1", 1, 0, 1);
        gives("f0 r0 f10 w1", 4, 10);
    }

    private static void cells() {
        gives("a5 s0 a1 s3 g0 w1 g3 w1 g1 w1", 10, 5, 6, 0);
        fails("a5 w1 s4", 3, 2, 3, 5);
        fails("g4", 3, 0, 1);
        fails("g255", 3, 0, 1);
    }

    private static void jumps() {
        gives("j2 w1 a1 w1", 4, 0, 1);
        gives("a1 j3 w1 w2", 3, 1, 1);
        gives("z2 w1 w2", 2, 0, 0);
        gives("a1 z3 w1 w2", 4, 1, 1, 1);
        gives("e3 w1 i3 e5 w1", 4, 0);
        gives("i2 e3 w1 w2", 4, 0, 0, 0);
        gives("i3 e3 w1 w2", 3, 0, 0);
        gives("b2 w1 w2", 2, 0, 0);
        gives("e5 r0 w1 i1 b0", 16, 10, 20, 30);
        gives("a3 w1 a255 j1", 10, 3, 2, 1);
        gives("w1 b2", 2, 0);
        gives("w1 b255", 2, 0);
        gives("a1 j40 w1", 2);
        gives("z3 w1 w1", 1);
    }

    private static void ends() {
        gives("a1 w1 h0 w9", 3, 1);
        gives("h255 f9", 1);
        gives("a1", 1);
    }

    private static void steps() {
        MigrateSteps x = new MigrateSteps(3, 1);
        Expect.script(x, "a1 a1 w1");
        Expect.script(x, "a1 w1 a1 w1");
        Expect.script(x, "a1 w1 h0 w1");
        Expect.script(x, "a1 a1 b3");
        Expect.script(x, "a1 b0");
        Expect.script(x, "a1 a1 f9 h0");
        x.original();
        Expect.same("just the steps", x.migrate(0, 0), 1);
        Expect.same("counted()", x.counted(), 3);
        Expect.same("one too many", x.migrate(0, 1), -16);
        Expect.same("failed() is the next one", x.failed(), 3);
        Expect.tried(x, 1);
        Expect.same("counted()", x.counted(), 6);
        Expect.same("h is a step", x.migrate(0, 2), 2);
        Expect.same("jump behind the last", x.migrate(0, 3), 3);
        Expect.same("counted()", x.counted(), 12);
        Expect.same("a ring", x.migrate(0, 4), -16);
        Expect.same("failed() after a jump", x.failed(), 1);
        Expect.same("f at the last step", x.migrate(0, 5), -13);
        Expect.same("failed() by f", x.failed(), 2);
        Expect.same("counted()", x.counted(), 18);
        MigrateSteps none = new MigrateSteps(0, 1);
        Expect.script(none, "h0");
        none.original();
        Expect.same("no steps", none.migrate(0, 0), -16);
        Expect.same("failed() of no steps", none.failed(), 0);
        Expect.same("counted() of no steps", none.counted(), 0);
    }

    private static void failuresAreOfTheLatestRun() {
        MigrateSteps x = new MigrateSteps(50, 1);
        Expect.script(x, "a7 w2 f0");
        Expect.script(x, "a8 w1");
        Expect.script(x, "w3");
        Expect.original(x, 1);
        x.check(2, false, 0, 9);
        Expect.same("fails", x.migrate(0, 0), -13);
        Expect.same("check before: no run", x.migrate(0, 2), -12);
        Expect.same("failed() stays", x.failed(), 2);
        Expect.tried(x, 7, 7);
        Expect.same("no item: no run", x.migrate(9, 1), MigrateSteps.NONE);
        Expect.same("failed() stays", x.failed(), 2);
        Expect.same("goes well", x.migrate(0, 1), 1);
        Expect.same("failed() is none", x.failed(), MigrateSteps.NONE);
        Expect.tried(x, 8);
        Expect.same("fails", x.migrate(0, 0), -13);
        Expect.same("derived already: no run", x.migrate(0, 1), -11);
        Expect.same("failed() stays", x.failed(), 2);
        Expect.tried(x, 7, 7);
        Expect.same("counted()", x.counted(), 8);
        x.check(1, true, 0, 5);
        Expect.same("check behind", x.migrate(1, 1), -17);
        Expect.same("a run that did not fail", x.failed(), MigrateSteps.NONE);
        Expect.tried(x, 8);
        Expect.same("counted()", x.counted(), 10);
    }

    private static void runsStartAnew() {
        MigrateSteps x = new MigrateSteps(50, 1);
        Expect.script(x, "a7 s0 i5 w9");
        Expect.script(x, "w1 g0 w1 r0 w1");
        Expect.original(x, 99);
        x.migrate(0, 0);
        Expect.same("second run", x.migrate(0, 1), 2);
        Expect.bytes(x, 2, 0, 0, 99);
        Expect.tried(x, 0, 0, 99);
        Expect.bytes(x, 1, 7, 7, 7, 7, 7, 7, 7, 7, 7);
    }
}
