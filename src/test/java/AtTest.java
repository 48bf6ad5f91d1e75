/** Promise 18: at. */
public final class AtTest {
    public static void main(String[] args) {
        byteOfAnItem();
        goneOnesToo();
        noSuchByte();
        noSuchByteOfNothing();
        noSuchByteOfGoneOnes();
        noSuchItem();
        Expect.end();
    }

    private static MigrateSteps withItems() {
        MigrateSteps x = new MigrateSteps(50, 1);
        Expect.script(x, "r1 w3");
        Expect.original(x, 0, 255, 128);
        Expect.same("migrate", x.migrate(0, 0), 1);
        return x;
    }

    private static void byteOfAnItem() {
        Expect.sentence("Byte i of an item, 0 .. 255");
        MigrateSteps x = withItems();
        Expect.at(x, 0, 0, 0);
        Expect.at(x, 0, 1, 255);
        Expect.at(x, 0, 2, 128);
        Expect.at(x, 1, 0, 255);
        Expect.at(x, 1, 2, 255);
        Expect.original(x, new int[40]);
        Expect.at(x, 2, 39, 0);
    }

    private static void goneOnesToo() {
        Expect.sentence("GONE ones too");
        MigrateSteps x = withItems();
        x.drop(1);
        Expect.bytes(x, 1, 255, 255, 255);
    }

    private static void noSuchByte() {
        Expect.sentence("ArrayIndexOutOfBoundsException if there is none such");
        MigrateSteps x = withItems();
        for (int i : new int[] {-1, 3, 4, 39, 40, 255, 256, Integer.MIN_VALUE, Integer.MAX_VALUE}) {
            Expect.noByte(x, 0, i);
            Expect.noByte(x, 1, i);
        }
        Expect.original(x, new int[40]);
        Expect.noByte(x, 2, 40);
        Expect.noByte(x, 2, -1);
    }

    private static void noSuchByteOfNothing() {
        Expect.sentence("ArrayIndexOutOfBoundsException of an item without bytes");
        MigrateSteps x = withItems();
        x.original();
        Expect.noByte(x, 2, 0);
        Expect.noByte(x, 2, -1);
        Expect.noByte(x, 2, 1);
    }

    private static void noSuchByteOfGoneOnes() {
        Expect.sentence("ArrayIndexOutOfBoundsException of GONE ones too");
        MigrateSteps x = withItems();
        x.drop(1);
        Expect.noByte(x, 1, 3);
        Expect.noByte(x, 1, -1);
    }

    private static void noSuchItem() {
        Expect.sentence("NONE if there is no such item");
        MigrateSteps x = withItems();
        for (int i : new int[] {-1, 0, 3, 40, Integer.MIN_VALUE, Integer.MAX_VALUE}) {
            Expect.at(x, -1, i, MigrateSteps.NONE);
            Expect.at(x, 2, i, MigrateSteps.NONE);
            for (int bad : Expect.NO_NUMBERS) {
                Expect.at(x, bad, i, MigrateSteps.NONE);
            }
        }
        MigrateSteps y = new MigrateSteps(1, 1);
        Expect.originals(y, 60);
        Expect.at(y, 59, 0, 59);
        Expect.at(y, 60, 0, MigrateSteps.NONE);
    }
}
