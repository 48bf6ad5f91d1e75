/** Promise 5: octet. */
public final class OctetTest {
    public static void main(String[] args) {
        aByteMore();
        lowestEightBits();
        fortyAreCollected();
        beyondFortyIsLost();
        whatIsLostComesToNoOtherItem();
        Expect.end();
    }

    private static MigrateSteps collecting(int count) {
        MigrateSteps x = new MigrateSteps(10, 1);
        for (int i = 0; i < count; i++) {
            x.octet(i + 1);
        }
        x.original();
        return x;
    }

    private static void aByteMore() {
        Expect.sentence("A byte more is collected");
        MigrateSteps x = new MigrateSteps(10, 1);
        x.octet(5);
        x.octet(0);
        x.octet(255);
        x.octet(5);
        x.original();
        Expect.bytes(x, 0, 5, 0, 255, 5);
    }

    private static void lowestEightBits() {
        Expect.sentence("a byte is 0 .. 255");
        MigrateSteps x = new MigrateSteps(10, 1);
        Expect.original(x, 127, 128, 255, 256, 257, -1, -256, Integer.MIN_VALUE + 3, Integer.MAX_VALUE);
        Expect.bytes(x, 0, 127, 128, 255, 0, 1, 255, 0, 3, 255);
    }

    private static void fortyAreCollected() {
        Expect.sentence("up to 40 no byte is lost");
        Expect.same("39", collecting(39).about(0, 0), 39);
        MigrateSteps x = collecting(40);
        Expect.same("40", x.about(0, 0), 40);
        Expect.at(x, 0, 0, 1);
        Expect.at(x, 0, 39, 40);
    }

    private static void beyondFortyIsLost() {
        Expect.sentence("beyond 40 it is lost");
        for (int count : new int[] {41, 45, 300}) {
            MigrateSteps x = collecting(count);
            Expect.same(count + " bytes", x.about(0, 0), 40);
            Expect.at(x, 0, 0, 1);
            Expect.at(x, 0, 39, 40);
            Expect.noByte(x, 0, 40);
        }
    }

    private static void whatIsLostComesToNoOtherItem() {
        Expect.sentence("beyond 40 it is lost, for the next item too");
        MigrateSteps x = collecting(43);
        Expect.original(x, 77);
        Expect.bytes(x, 1, 77);
    }
}
