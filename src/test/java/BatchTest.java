/** Promises 14 batch, 15 undo and 16 drop. */
public final class BatchTest {
    public static void main(String[] args) {
        batching();
        undoing();
        whatStaysIsLeft();
        droppedBefore();
        stayingForGoneOnes();
        noMoreItems();
        dropping();
        Expect.end();
    }

    private static MigrateSteps withOriginals(int count) {
        MigrateSteps x = new MigrateSteps(50, 1);
        Expect.script(x, "r0 a1 w1");
        Expect.script(x, "r0 a2 w1");
        Expect.script(x, "r0 f2 w1");
        for (int n = 0; n < count; n++) {
            Expect.original(x, n);
        }
        return x;
    }

    private static void gone(MigrateSteps x, String due) {
        for (int n = 0; n < due.length(); n++) {
            Expect.same("about(" + n + ", 3)", x.about(n, 3), due.charAt(n) - '0');
        }
        Expect.same("no more items", x.about(due.length(), 3), MigrateSteps.NONE);
    }

    private static void batching() {
        MigrateSteps x = withOriginals(3);
        for (int bad : new int[] {-1, 3, 10, Integer.MIN_VALUE, Integer.MAX_VALUE}) {
            Expect.same("batch(" + bad + ")", x.batch(bad), MigrateSteps.NONE);
        }
        Expect.same("migrate", x.migrate(1, 0), 3);
        Expect.same("all but one", x.batch(0), 2);
        Expect.same("from 0", x.about(4, 1), 0);
        Expect.same("from 2", x.about(5, 1), 2);
        Expect.bytes(x, 5, 3);
        Expect.same("none", x.batch(0), 0);
        Expect.same("failing ones", x.batch(2), 1);
        Expect.same("from 2 by 2", x.about(6, 1), 2);
        Expect.same("failed() of the latest", x.failed(), MigrateSteps.NONE);
        Expect.same("counted()", x.counted(), 3 + 6 + 2 + 2 + 3);
        Expect.same("what()", x.what(), 0);
        Expect.same("no originals", withOriginals(0).batch(0), 0);
        x.chain(1, 0);
        Expect.same("a batch does not go on", x.batch(1), 3);
        gone(x, "0000000000");
    }

    private static void undoing() {
        MigrateSteps x = withOriginals(2);
        Expect.same("none yet", x.undo(), MigrateSteps.NONE);
        Expect.same("first", x.batch(0), 2);
        Expect.same("second", x.batch(1), 2);
        Expect.same("an empty one is none", x.batch(1), 0);
        Expect.same("the second goes", x.undo(), 2);
        gone(x, "000011");
        Expect.same("again", x.batch(1), 2);
        gone(x, "00001100");
        Expect.same("it goes again", x.undo(), 2);
        gone(x, "00001111");
        Expect.same("the first goes", x.undo(), 2);
        gone(x, "00111111");
        Expect.same("no more", x.undo(), MigrateSteps.NONE);
        Expect.bytes(x, 2, 1);
    }

    private static void whatStaysIsLeft() {
        MigrateSteps x = withOriginals(2);
        x.batch(0);
        Expect.same("from the first", x.migrate(2, 1), 4);
        Expect.same("one stays", x.undo(), 1);
        gone(x, "00010");
        Expect.same("it is undone", x.undo(), MigrateSteps.NONE);
        Expect.same("one comes anew", x.batch(0), 1);
        x.drop(4);
        Expect.same("only the new one goes", x.undo(), 1);
        gone(x, "000111");
        MigrateSteps y = withOriginals(2);
        y.batch(0);
        y.migrate(2, 0);
        y.migrate(3, 0);
        Expect.same("all stay", y.undo(), 0);
        gone(y, "000000");
        Expect.same("it is undone all the same", y.undo(), MigrateSteps.NONE);
    }

    private static void droppedBefore() {
        MigrateSteps x = withOriginals(2);
        x.batch(0);
        x.batch(1);
        x.drop(4);
        Expect.same("one is gone already", x.undo(), 1);
        x.drop(2);
        x.drop(3);
        Expect.same("both are gone already", x.undo(), 0);
        Expect.same("no more", x.undo(), MigrateSteps.NONE);
    }

    private static void stayingForGoneOnes() {
        MigrateSteps x = withOriginals(1);
        x.batch(0);
        x.migrate(1, 1);
        x.drop(2);
        Expect.same("a gone item keeps none", x.undo(), 1);
        gone(x, "011");
    }

    private static void noMoreItems() {
        MigrateSteps x = withOriginals(40);
        Expect.same("migrate", x.migrate(0, 2), -13);
        Expect.same("twenty fit", x.batch(0), 20);
        Expect.same("all were run", x.counted(), 2 + 40 * 3);
        Expect.tried(x, 40);
        Expect.same("what() stays", x.what(), -13);
        Expect.same("none fits", x.batch(1), 0);
        Expect.same("all were run", x.counted(), 2 + 40 * 3 + 40 * 3);
        Expect.same("undo", x.undo(), 20);
        Expect.same("undo", x.undo(), MigrateSteps.NONE);
        Expect.same("numbers are not used again", x.batch(0), 0);
        MigrateSteps y = withOriginals(1);
        for (int n = 0; n < 59; n++) {
            Expect.same("batch of one", y.batch(0), 1);
            y.drop(n + 1);
        }
        Expect.same("full", y.batch(0), 0);
        for (int n = 0; n < 59; n++) {
            Expect.same("undo", y.undo(), 0);
        }
        Expect.same("undo", y.undo(), MigrateSteps.NONE);
    }

    private static void dropping() {
        MigrateSteps x = withOriginals(1);
        x.migrate(0, 0);
        x.migrate(1, 0);
        Expect.same("an original", x.drop(0), MigrateSteps.STATE);
        Expect.same("one is derived from it", x.drop(1), MigrateSteps.STATE);
        Expect.same("a last one", x.drop(2), 1);
        Expect.same("gone already", x.drop(2), MigrateSteps.NONE);
        gone(x, "001");
        Expect.same("free now", x.drop(1), 1);
        Expect.same("an original without derived", x.drop(0), MigrateSteps.STATE);
        gone(x, "011");
        for (int bad : new int[] {-1, 3, 60, Integer.MIN_VALUE, Integer.MAX_VALUE}) {
            Expect.same("drop(" + bad + ")", x.drop(bad), MigrateSteps.NONE);
        }
    }
}
