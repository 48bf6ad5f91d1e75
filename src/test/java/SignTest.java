/** Promise 2: sign. */
public final class SignTest {
    public static void main(String[] args) {
        aSignMore();
        lowestEightBits();
        theTwoHundredthIsSeen();
        beyondItIsLost();
        whatIsLostComesToNoOtherText();
        Expect.end();
    }

    private static MigrateSteps fresh() {
        return new MigrateSteps(100, 4);
    }

    private static void aSignMore() {
        Expect.sentence("A sign more of a script");
        MigrateSteps x = fresh();
        x.sign('a');
        x.sign('1');
        x.sign('2');
        x.sign(' ');
        x.sign('w');
        x.sign('2');
        Expect.rightScript(x, "", 0);
        x.original();
        x.migrate(0, 0);
        Expect.bytes(x, 1, 12, 12);
    }

    private static void lowestEightBits() {
        Expect.sentence("the lowest eight bits");
        MigrateSteps x = fresh();
        x.sign('a' + 256);
        x.sign('7' - 256);
        x.sign(' ' + (1 << 30));
        x.sign('w' | Integer.MIN_VALUE);
        x.sign('1' + 512);
        Expect.rightScript(x, "", 0);
        x.original();
        x.migrate(0, 0);
        Expect.bytes(x, 1, 7);
        x.sign('h' + 128);
        Expect.wrongScript(x, "0", 0);
        x.sign(-1);
        Expect.wrongScript(x, "", 0);
        x.sign(Integer.MIN_VALUE);
        Expect.wrongScript(x, "", 0);
        x.sign(Integer.MAX_VALUE);
        Expect.wrongScript(x, "", 0);
    }

    /** No right text is longer than 199 signs, so the 200th shows only by what is wrong. */
    private static void theTwoHundredthIsSeen() {
        Expect.sentence("up to 200 no sign is lost");
        String most = Expect.commands(40, "a255");
        Expect.same("the longest right text", most.length(), 199);
        Expect.rightScript(fresh(), most, 0);
        Expect.wrongScript(fresh(), most + " ", 200);
        Expect.wrongScript(fresh(), most + "5", 199);
    }

    private static void beyondItIsLost() {
        Expect.sentence("beyond 200 it is lost");
        String most = Expect.commands(40, "a255");
        Expect.wrongScript(fresh(), most + " a", 200);
        Expect.wrongScript(fresh(), most + " a1 a1 a1", 200);
        Expect.wrongScript(fresh(), "h0 q" + "0".repeat(400), 3);
    }

    private static void whatIsLostComesToNoOtherText() {
        Expect.sentence("beyond 200 it is lost, for the next text too");
        MigrateSteps x = fresh();
        Expect.wrongScript(x, "q".repeat(200) + "a1 a1 a1", 0);
        Expect.rightScript(x, "h0", 0);
        Expect.wrongScript(x, "q".repeat(201), 0);
        Expect.wrongScript(x, "", 0);
    }
}
