/** Promises 2 sign, 3 read and 4 place: how scripts are told and where they are wrong. */
public final class ScriptTextTest {
    public static void main(String[] args) {
        rightTexts();
        letters();
        wrongTexts();
        numbers();
        tooManyCommands();
        lowestEightBits();
        signsBeyondTheLimit();
        textIsGone();
        noMoreScripts();
        Expect.end();
    }

    private static MigrateSteps fresh() {
        return new MigrateSteps(100, 4);
    }

    private static void rightTexts() {
        MigrateSteps x = fresh();
        Expect.rightScript(x, "h0", 0);
        Expect.rightScript(x, "r0 w1", 1);
        Expect.rightScript(x, "r00 w001 a255 x000 h010", 2);
        Expect.rightScript(x, "h0", 3);
    }

    private static void letters() {
        String known = "rwaxsgikjzebfh";
        for (int c = 0; c < 256; c++) {
            MigrateSteps x = fresh();
            String text = (char) c + "1";
            if (known.indexOf(c) >= 0) {
                Expect.rightScript(x, text, 0);
            } else {
                Expect.wrongScript(x, text, 0);
            }
        }
    }

    private static void wrongTexts() {
        MigrateSteps x = fresh();
        Expect.wrongScript(x, "", 0);
        Expect.wrongScript(x, " ", 0);
        Expect.wrongScript(x, " h0", 0);
        Expect.wrongScript(x, "5", 0);
        Expect.wrongScript(x, "q1", 0);
        Expect.wrongScript(x, "H0", 0);
        Expect.wrongScript(x, "h", 1);
        Expect.wrongScript(x, "h ", 1);
        Expect.wrongScript(x, "hh", 1);
        Expect.wrongScript(x, "h-1", 1);
        Expect.wrongScript(x, "h/", 1);
        Expect.wrongScript(x, "h:", 1);
        Expect.wrongScript(x, "h0 ", 3);
        Expect.wrongScript(x, "h0  h0", 3);
        Expect.wrongScript(x, "h0h0", 2);
        Expect.wrongScript(x, "h0,h0", 2);
        Expect.wrongScript(x, "h0 q0", 3);
        Expect.wrongScript(x, "h0 w", 4);
        Expect.wrongScript(x, "h12 w34 a", 9);
        Expect.same("no script came", Expect.script(x, "h0"), 0);
    }

    private static void numbers() {
        MigrateSteps x = fresh();
        Expect.rightScript(x, "w255", 0);
        Expect.wrongScript(x, "w256", 1);
        Expect.wrongScript(x, "w999", 1);
        Expect.wrongScript(x, "h0 w300 q", 4);
        Expect.wrongScript(x, "w1000", 4);
        Expect.wrongScript(x, "w0001", 4);
        Expect.wrongScript(x, "w2560", 1);
        Expect.wrongScript(x, "w25x", 3);
        Expect.rightScript(x, "w025", 1);
    }

    private static void tooManyCommands() {
        MigrateSteps x = fresh();
        String forty = commands(40, "a1");
        Expect.rightScript(x, forty, 0);
        Expect.rightScript(x, commands(40, "a255"), 1);
        Expect.wrongScript(x, forty + " ", 120);
        Expect.wrongScript(x, forty + "a", 119);
        Expect.wrongScript(x, forty + " a1", 120);
        Expect.wrongScript(x, forty + " q1", 120);
        Expect.wrongScript(x, forty + " a999", 120);
    }

    private static void lowestEightBits() {
        MigrateSteps x = fresh();
        x.sign('a' + 256);
        x.sign('7' - 256);
        x.sign(' ' + (1 << 30));
        x.sign('w' | Integer.MIN_VALUE);
        x.sign('1' + 512);
        Expect.rightScript(x, "", 0);
        x.original();
        x.migrate(0, 0);
        Expect.bytes(x, 1, 7);
        x.sign(-1);
        Expect.wrongScript(x, "", 0);
    }

    private static void signsBeyondTheLimit() {
        MigrateSteps x = fresh();
        // 199 signs, and a 200th that is still seen; all behind it is lost
        String most = commands(40, "a255");
        Expect.same("length", most.length(), 199);
        Expect.wrongScript(x, most + " ", 200);
        Expect.wrongScript(x, most + " a1 a1 a1", 200);
        Expect.wrongScript(x, most + "5", 199);
        Expect.wrongScript(x, "h0 q" + "0".repeat(400), 3);
        Expect.rightScript(x, "h0", 0);
    }

    private static void textIsGone() {
        MigrateSteps x = fresh();
        Expect.rightScript(x, "a1", 0);
        Expect.wrongScript(x, "", 0);
        Expect.wrongScript(x, "a1 q", 3);
        Expect.same("place() stays", x.place(), 3);
        Expect.tell(x, "a1");
        Expect.same("place() while told", x.place(), 3);
        Expect.rightScript(x, " w2", 1);
        x.original();
        x.migrate(0, 1);
        Expect.bytes(x, 1, 1, 1);
    }

    private static void noMoreScripts() {
        MigrateSteps x = fresh();
        for (int n = 0; n < 10; n++) {
            Expect.rightScript(x, "a" + n + " w1", n);
        }
        Expect.wrongScript(x, "a1 x", 4);
        Expect.rightScript(x, "a99 w1", MigrateSteps.FULL);
        Expect.wrongScript(x, "", 0);
        Expect.rightScript(x, "a99 w1", MigrateSteps.FULL);
        x.original();
        Expect.same("last script", x.migrate(0, 9), 1);
        Expect.bytes(x, 1, 9);
        Expect.same("script behind the last", x.migrate(0, 10), MigrateSteps.NONE);
    }

    private static String commands(int count, String one) {
        return one + (" " + one).repeat(count - 1);
    }
}
