/** A run and each of its commands, where nothing fails. */
public final class RunTest {
    public static void main(String[] args) {
        allZeroAtFirst();
        allZeroAtFirstOfEachRun();
        r();
        w();
        wOfNone();
        a();
        aWraps();
        x();
        sAndG();
        i();
        k();
        j();
        z();
        e();
        eOfNothing();
        b();
        fromZeroOn();
        behindTheLastOneItEnds();
        f();
        h();
        behindTheLastCommandItEnds();
        pointerDoesNotRunOver();
        eachChangesOnlyWhatItNames();
        Expect.end();
    }

    private static void allZeroAtFirst() {
        Expect.sentence("all 0 at first");
        OneRun.gives("w1", 1, 0);
        OneRun.gives("r0 w1", 2, 10);
        OneRun.gives("a9 g0 w1 a9 g3 w1", 6, 0, 0);
    }

    private static void allZeroAtFirstOfEachRun() {
        Expect.sentence("all 0 at first, whatever the run before left");
        MigrateSteps m = new MigrateSteps(50, 2);
        Expect.script(m, "a7 s0 s1 i5 w9");
        Expect.script(m, "w1 g0 w1 g1 w1 r0 w1");
        Expect.script(m, "a7 s1 w3 f0");
        Expect.original(m, 99);
        Expect.same("first run", m.migrate(0, 0), 1);
        Expect.same("second run", m.migrate(0, 1), 2);
        Expect.bytes(m, 2, 0, 0, 0, 99);
        Expect.tried(m, 0, 0, 0, 99);
        Expect.same("a run that fails", m.migrate(0, 2), -13);
        Expect.same("and one behind it", m.migrate(2, 1), 3);
        Expect.bytes(m, 3, 0, 0, 0, 0);
        Expect.bytes(m, 1, 7, 7, 7, 7, 7, 7, 7, 7, 7);
    }

    private static void r() {
        Expect.sentence("r: A is byte I + N of what it runs over");
        OneRun.gives("r0 w1 r1 w1 r2 w1", 6, 10, 20, 30);
        OneRun.gives("i1 r0 w1 r1 w1", 5, 20, 30);
        OneRun.gives("i2 r0 w1", 3, 30);
        OneRun.gives("a1 r0 w1", 3, 10);
        OneRun.gives("r1 r0 w1", 3, 10);
    }

    private static void w() {
        Expect.sentence("w: A is put out, N times");
        OneRun.gives("r1 w1", 2, 20);
        OneRun.gives("r1 w3", 2, 20, 20, 20);
        OneRun.gives("r1 w1 r0 w2", 4, 20, 10, 10);
    }

    private static void wOfNone() {
        Expect.sentence("w: 0 times");
        OneRun.gives("r1 w0", 2);
        OneRun.gives("w1 r1 w0 w1", 4, 0, 20);
    }

    private static void a() {
        Expect.sentence("a: A becomes the sum of it and N");
        OneRun.gives("a5 w1 a6 w1 a0 w1", 6, 5, 11, 11);
        OneRun.gives("r0 a1 w1", 3, 11);
    }

    private static void aWraps() {
        Expect.sentence("a: modulo 256");
        OneRun.gives("a255 w1 a1 w1 a7 w1", 6, 255, 0, 7);
        OneRun.gives("a200 a100 w1", 3, 44);
        OneRun.gives("a255 a255 w1", 3, 254);
    }

    private static void x() {
        Expect.sentence("x: A exclusive or N");
        OneRun.gives("a12 x10 w1 x255 w1 x0 w1", 7, 6, 249, 249);
        OneRun.gives("x255 w1 x255 w1", 4, 255, 0);
    }

    private static void sAndG() {
        Expect.sentence("s: M[N] is A. g: A is M[N]");
        OneRun.gives("a5 s0 a1 s3 g0 w1 g3 w1 g1 w1", 10, 5, 6, 0);
        OneRun.gives("a5 s2 w1 a1 s2 g2 w1", 7, 5, 6);
    }

    private static void i() {
        Expect.sentence("i: I grows by N");
        OneRun.gives("i1 r0 w1 i1 r0 w1", 6, 20, 30);
        OneRun.gives("i0 r0 w1", 3, 10);
    }

    private static void k() {
        Expect.sentence("k: I is N");
        OneRun.gives("k2 r0 w1 k0 r0 w1 k1 r0 w1", 9, 30, 10, 20);
        OneRun.gives("i255 k1 k1 r1 w1", 5, 30);
    }

    private static void j() {
        Expect.sentence("j: if A is not 0 the command N is next");
        OneRun.gives("a1 j3 w1 w2", 3, 1, 1);
        OneRun.gives("a255 j3 w1 w2", 3, 255, 255);
        OneRun.gives("j2 w1 w2", 3, 0, 0, 0);
        OneRun.gives("a255 a1 j4 w1 w2", 5, 0, 0, 0);
        OneRun.gives("a3 w1 a255 j1", 10, 3, 2, 1);
    }

    private static void z() {
        Expect.sentence("z: likewise if A is 0");
        OneRun.gives("z2 w1 w2", 2, 0, 0);
        OneRun.gives("a1 z3 w1 w2", 4, 1, 1, 1);
        OneRun.gives("a255 z3 w1 w2", 4, 255, 255, 255);
    }

    private static void e() {
        Expect.sentence("e: likewise if I is not below the size of what it runs over");
        OneRun.gives("e2 w1 w2", 3, 0, 0, 0);
        OneRun.gives("i2 e3 w1 w2", 4, 0, 0, 0);
        OneRun.gives("i3 e3 w1 w2", 3, 0, 0);
        OneRun.gives("i4 e3 w1 w2", 3, 0, 0);
        OneRun.gives("i255 i255 e4 w1 w2", 4, 0, 0);
        OneRun.gives("e5 r0 w1 i1 b0", 16, 10, 20, 30);
    }

    private static void eOfNothing() {
        Expect.sentence("e: over no bytes at all");
        MigrateSteps m = new MigrateSteps(50, 0);
        Expect.script(m, "e2 w1 w2");
        m.original();
        Expect.same("migrate", m.migrate(0, 0), 1);
        Expect.bytes(m, 1, 0, 0);
    }

    private static void b() {
        Expect.sentence("b: likewise always");
        OneRun.gives("b2 w1 w2", 2, 0, 0);
        OneRun.gives("a1 b3 w1 w2", 3, 1, 1);
    }

    private static void fromZeroOn() {
        Expect.sentence("the command N is next (from 0 on)");
        OneRun.gives("z2 b4 a1 b0 w1", 6, 1);
        OneRun.gives("b1 w1", 2, 0);
        OneRun.gives("w1 a128 j0", 6, 0, 128);
    }

    private static void behindTheLastOneItEnds() {
        Expect.sentence("the command N is next (behind the last one it ends)");
        OneRun.gives("b2 w1", 1);
        OneRun.gives("b3 w1", 1);
        OneRun.gives("b40 w1", 1);
        OneRun.gives("b255 w1", 1);
        OneRun.gives("a1 j3 w1", 2);
        OneRun.gives("a1 j255 w1", 2);
        OneRun.gives("z2 w1", 1);
        OneRun.gives("z255 w1", 1);
        OneRun.gives("i3 e3 w1", 2);
        OneRun.gives("i3 e255 w1", 2);
        OneRun.gives("b39 " + Expect.commands(39, "w1"), 2, 0);
        OneRun.gives("b40 " + Expect.commands(39, "w1"), 1);
    }

    private static void f() {
        Expect.sentence("f: it does not FAIL if A is N");
        OneRun.gives("f0 r0 f10 w1", 4, 10);
        OneRun.gives("a255 f255", 2);
    }

    private static void h() {
        Expect.sentence("h: it ends");
        OneRun.gives("a1 w1 h0 w9", 3, 1);
        OneRun.gives("h0", 1);
        OneRun.gives("h1 f9", 1);
        OneRun.gives("h255 f9", 1);
        OneRun.gives("h0 " + Expect.commands(39, "f9"), 1);
    }

    private static void behindTheLastCommandItEnds() {
        Expect.sentence("Behind the last command it ends");
        OneRun.gives("a1", 1);
        OneRun.gives("a1 w1", 2, 1);
        OneRun.gives(Expect.commands(40, "a1"), 40);
    }

    /**
     * 2000 steps of at most 255 never come to the 1000000 at which I stays, and the bytes are 40 at
     * most: what can be seen is that I does not come back to them on its way, here at 65536.
     */
    private static void pointerDoesNotRunOver() {
        Expect.sentence("I does not run over");
        String rounds = "a240 a1 " + Expect.commands(16, "i255") + " j1 i255 i1 ";
        int steps = 1 + 16 * 18 + 2;
        far(rounds + "r0", -14, steps + 1);
        far(rounds + "r39", -14, steps + 1);
        far(rounds + "e255 f9", 1, steps + 1);
        far("i40 r0", -14, 2);
        far("i39 r0", 1, 2);
        far("a205 a1 " + Expect.commands(36, "i255") + " j1 r255", -14, 1 + 51 * 38 + 1);
    }

    private static void far(String text, int answer, int steps) {
        MigrateSteps m = new MigrateSteps(2000, 0);
        Expect.script(m, text);
        Expect.original(m, new int[40]);
        Expect.same(text, m.migrate(0, 0), answer);
        Expect.same(text + ": counted()", m.counted(), steps);
    }

    private static void eachChangesOnlyWhatItNames() {
        Expect.sentence("a command changes only what its words name");
        amid("r1", 30, 7, 20);
        amid("w0", 7, 7, 20);
        amid("a1", 8, 7, 20);
        amid("x1", 6, 7, 20);
        amid("s0", 7, 7, 20);
        amid("g0", 0, 7, 20);
        amid("i1", 7, 7, 30);
        amid("k0", 7, 7, 10);
        amid("j4", 7, 7, 20);
        amid("z9", 7, 7, 20);
        amid("e9", 7, 7, 20);
        amid("b4", 7, 7, 20);
        amid("f7", 7, 7, 20);
    }

    /** A, M[1] and byte I are put out behind a command that finds 7, 7 and 20 there. */
    private static void amid(String command, int... out) {
        OneRun.gives("a7 s1 i1 " + command + " w1 g1 w1 r0 w1", 9, out);
    }
}
