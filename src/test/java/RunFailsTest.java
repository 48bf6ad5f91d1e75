/** How a run fails, and its PLACE. */
public final class RunFailsTest {
    public static void main(String[] args) {
        byF();
        byR();
        byROfNothing();
        byS();
        byG();
        byW();
        whatFitsIsPutOut();
        bySteps();
        noSteps();
        notBySteps();
        failureBeforeSteps();
        placeOfSteps();
        nothingIsDoneBehind();
        Expect.end();
    }

    private static void byF() {
        Expect.sentence("1 by f: it FAILS if A is not N");
        OneRun.fails("f1", 1, 0, 1);
        OneRun.fails("f255", 1, 0, 1);
        OneRun.fails("a5 f5 f6", 1, 2, 3);
        OneRun.fails("a5 f4", 1, 1, 2);
        OneRun.fails("a255 f0", 1, 1, 2);
    }

    private static void byR() {
        Expect.sentence("2 by r outside the bytes");
        OneRun.fails("w1 r3", 2, 1, 2, 0);
        OneRun.fails("r255", 2, 0, 1);
        OneRun.fails("i3 r0", 2, 1, 2);
        OneRun.fails("i1 r2", 2, 1, 2);
        OneRun.fails("i255 r255", 2, 1, 2);
        OneRun.fails("i2 r0 w1 r1", 2, 3, 4, 30);
        OneRun.fails("i255 i1 r0", 2, 2, 3);
    }

    private static void byROfNothing() {
        Expect.sentence("2 by r outside the bytes, of which there are none");
        MigrateSteps x = new MigrateSteps(50, 0);
        Expect.script(x, "r0");
        x.original();
        Expect.same("migrate", x.migrate(0, 0), -14);
        Expect.same("failed()", x.failed(), 0);
    }

    private static void byS() {
        Expect.sentence("3 by s outside the CELLS");
        OneRun.gives("a5 w1 s3", 3, 5);
        OneRun.fails("a5 w1 s4", 3, 2, 3, 5);
        OneRun.fails("s255", 3, 0, 1);
    }

    private static void byG() {
        Expect.sentence("3 by g outside the CELLS");
        OneRun.gives("g3", 1);
        OneRun.fails("w1 g4", 3, 1, 2, 0);
        OneRun.fails("g255", 3, 0, 1);
    }

    private static void byW() {
        Expect.sentence("3 by more than 40 bytes put out");
        puts("a3 w40", 1, MigrateSteps.NONE);
        puts("a3 w41", -15, 1);
        puts("a3 w255", -15, 1);
        puts("w39 w1", 1, MigrateSteps.NONE);
        puts("w39 w2", -15, 1);
        puts("w40 w1", -15, 1);
        puts("w40 w0", 1, MigrateSteps.NONE);
        puts("w40 w0 a1 w1", -15, 3);
        puts("a216 w1 a1 j1", 1, MigrateSteps.NONE);
        puts("a215 w1 a1 j1", -15, 1);
    }

    /** A run that puts out 40 bytes, or would put out more. */
    private static void puts(String text, int answer, int place) {
        MigrateSteps x = new MigrateSteps(200, 0);
        Expect.script(x, text);
        x.original();
        Expect.same(text, x.migrate(0, 0), answer);
        Expect.same(text + ": failed()", x.failed(), place);
        Expect.same(text + ": there is a tried(39)", x.tried(39) == MigrateSteps.NONE ? 0 : 1, 1);
        Expect.same(text + ": tried(40)", x.tried(40), MigrateSteps.NONE);
    }

    private static void whatFitsIsPutOut() {
        Expect.sentence("by w: those that fit are put out all the same");
        MigrateSteps x = new MigrateSteps(50, 0);
        Expect.script(x, "a3 w38 a1 w3 a1 w1");
        Expect.script(x, "a5 w255");
        x.original();
        Expect.same("migrate", x.migrate(0, 0), -15);
        Expect.same("failed()", x.failed(), 3);
        Expect.same("tried(37)", x.tried(37), 3);
        Expect.same("tried(38)", x.tried(38), 4);
        Expect.same("tried(39)", x.tried(39), 4);
        Expect.same("tried(40)", x.tried(40), MigrateSteps.NONE);
        Expect.same("migrate", x.migrate(0, 1), -15);
        Expect.same("tried(0)", x.tried(0), 5);
        Expect.same("tried(39)", x.tried(39), 5);
    }

    private static void steps(int steps, String text, int answer, int place, int counted) {
        MigrateSteps x = new MigrateSteps(steps, 1);
        Expect.script(x, text);
        Expect.original(x, 10);
        String told = steps + " steps of " + text;
        Expect.same(told, x.migrate(0, 0), answer);
        Expect.same(told + ": failed()", x.failed(), place);
        Expect.same(told + ": counted()", x.counted(), counted);
    }

    private static void bySteps() {
        Expect.sentence("4 when one command more than the STEPS would be done");
        steps(3, "a1 w1 a1 w1", -16, 3, 3);
        steps(1, "a1 h0", -16, 1, 1);
        steps(2, "a1 a1 h0", -16, 2, 2);
        steps(39, Expect.commands(40, "a1"), -16, 39, 39);
        steps(5, "b0", -16, 0, 5);
    }

    private static void noSteps() {
        Expect.sentence("4 when there are no STEPS");
        steps(0, "h0", -16, 0, 0);
        steps(0, "f9", -16, 0, 0);
    }

    private static void notBySteps() {
        Expect.sentence("not 4 when the STEPS are just enough");
        steps(3, "a1 a1 w1", 1, MigrateSteps.NONE, 3);
        steps(3, "a1 a1 h0 w1", 1, MigrateSteps.NONE, 3);
        steps(3, "a1 a1 b4 w1", 1, MigrateSteps.NONE, 3);
        steps(3, "a1 a1 b255", 1, MigrateSteps.NONE, 3);
        steps(40, Expect.commands(40, "a1"), 1, MigrateSteps.NONE, 40);
    }

    private static void failureBeforeSteps() {
        Expect.sentence("a command that FAILS at the last of the STEPS");
        steps(3, "a1 a1 f9 h0", -13, 2, 3);
        steps(3, "a1 a1 r9 h0", -14, 2, 3);
        steps(3, "a1 a1 s9 h0", -15, 2, 3);
        steps(2, "a1 a1 f9 h0", -16, 2, 2);
    }

    private static void placeOfSteps() {
        Expect.sentence("PLACE: of 4 the one that would be next");
        steps(3, "a1 b0", -16, 1, 3);
        steps(4, "a1 b0", -16, 0, 4);
        steps(2, "a1 j3 w1 w1", -16, 3, 2);
        steps(1, "z2 w1 w1", -16, 2, 1);
    }

    private static void nothingIsDoneBehind() {
        Expect.sentence("PLACE is the command by which it failed");
        OneRun.fails("w1 f9 w1 f8", 1, 1, 2, 0);
        OneRun.fails("w1 r9 w1 f8", 2, 1, 2, 0);
        OneRun.fails("w1 g9 w1 f8", 3, 1, 2, 0);
        OneRun.fails("b2 w1 b4 w1 f9", 1, 4, 3);
    }
}
