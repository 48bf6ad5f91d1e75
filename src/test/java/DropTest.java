/** Promise 16: drop. */
public final class DropTest {
    public static void main(String[] args) {
        aDerivedItem();
        noSuchItem();
        goneAlready();
        anOriginal();
        oneIsDerivedFromIt();
        goneOnesDerivedFromIt();
        undoneOnes();
        Expect.end();
    }

    private static MigrateSteps withOriginal() {
        MigrateSteps x = new MigrateSteps(50, 1);
        Expect.script(x, "r0 w1");
        Expect.script(x, "r0 w2");
        Expect.original(x, 5);
        return x;
    }

    private static void aDerivedItem() {
        Expect.sentence("A DERIVED item is GONE: 1");
        MigrateSteps x = withOriginal();
        x.migrate(0, 0);
        x.migrate(0, 1);
        Expect.same("drop(1)", x.drop(1), 1);
        Expect.gone(x, "010");
        Expect.same("drop(2)", x.drop(2), 1);
        Expect.gone(x, "011");
    }

    private static void noSuchItem() {
        Expect.sentence("NONE");
        MigrateSteps x = withOriginal();
        x.migrate(0, 0);
        Expect.same("drop(-1)", x.drop(-1), MigrateSteps.NONE);
        Expect.same("drop(2)", x.drop(2), MigrateSteps.NONE);
        Expect.same("drop(59)", x.drop(59), MigrateSteps.NONE);
        for (int bad : Expect.NO_NUMBERS) {
            Expect.same("drop(" + bad + ")", x.drop(bad), MigrateSteps.NONE);
        }
        Expect.gone(x, "00");
    }

    private static void goneAlready() {
        Expect.sentence("NONE (also if it is GONE already)");
        MigrateSteps x = withOriginal();
        x.migrate(0, 0);
        Expect.same("drop", x.drop(1), 1);
        Expect.same("drop again", x.drop(1), MigrateSteps.NONE);
        x.batch(0);
        x.undo();
        Expect.same("drop of an undone one", x.drop(2), MigrateSteps.NONE);
    }

    private static void anOriginal() {
        Expect.sentence("STATE if it is an ORIGINAL");
        MigrateSteps x = withOriginal();
        Expect.same("without derived ones", x.drop(0), MigrateSteps.STATE);
        x.migrate(0, 0);
        Expect.same("with one", x.drop(0), MigrateSteps.STATE);
        x.drop(1);
        Expect.same("with a gone one", x.drop(0), MigrateSteps.STATE);
        Expect.original(x, 6);
        Expect.same("another", x.drop(2), MigrateSteps.STATE);
        Expect.gone(x, "010");
    }

    private static void oneIsDerivedFromIt() {
        Expect.sentence("STATE if an item that is not GONE is derived from it");
        MigrateSteps x = withOriginal();
        x.migrate(0, 0);
        x.migrate(1, 0);
        x.migrate(1, 1);
        Expect.same("two are derived from it", x.drop(1), MigrateSteps.STATE);
        Expect.same("drop(2)", x.drop(2), 1);
        Expect.same("one is", x.drop(1), MigrateSteps.STATE);
        Expect.gone(x, "0010");
    }

    private static void goneOnesDerivedFromIt() {
        Expect.sentence("only an item that is not GONE keeps it");
        MigrateSteps x = withOriginal();
        x.migrate(0, 0);
        x.migrate(1, 0);
        x.migrate(2, 0);
        Expect.same("drop(2)", x.drop(2), MigrateSteps.STATE);
        Expect.same("drop(3)", x.drop(3), 1);
        Expect.same("drop(2)", x.drop(2), 1);
        Expect.same("drop(1)", x.drop(1), 1);
        Expect.gone(x, "0111");
    }

    private static void undoneOnes() {
        Expect.sentence("an item of a BATCH may be dropped, and one that stayed");
        MigrateSteps x = withOriginal();
        x.batch(0);
        x.migrate(1, 0);
        x.undo();
        Expect.same("it stayed", x.drop(1), MigrateSteps.STATE);
        Expect.same("drop(2)", x.drop(2), 1);
        Expect.same("drop(1)", x.drop(1), 1);
    }
}
