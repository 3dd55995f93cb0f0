/** Promise 9: the numbers of the whole store. */
final class TotalTest {
    public static void main(String[] args) {
        sizes();
        eras();
        states();
        noSuchTotal();
        Check.finish();
    }

    /** The size doubles when there are more than two keys a bucket, up to 16, and never goes down. */
    private static void sizes() {
        SplitStore x = new SplitStore();
        for (int i = 1; i <= 40; i++) {
            x.start(0, Check.INSERT, 4 * i, i);
            x.run(0, 1000);
            int due = i > 16 ? 16 : i > 8 ? 8 : i > 4 ? 4 : i > 2 ? 2 : 1;
            Check.same("size with " + i, x.total(Check.SIZE), due);
            Check.same("count with " + i, x.total(Check.COUNT), i);
        }
        for (int i = 40; i >= 1; i--) {
            x.start(0, Check.REMOVE, 4 * i, 0);
            x.run(0, 1000);
            Check.same("count", x.total(Check.COUNT), i - 1);
        }
        Check.same("size", x.total(Check.SIZE), 16);
    }

    private static void eras() {
        SplitStore x = new SplitStore();
        for (int i = 1; i <= 20; i++) {
            Check.whole("insert", x, 0, Check.INSERT, i, i, 1);
            Check.same("an insert takes no era", x.total(Check.ERA), i);
            Check.whole("find", x, 0, Check.FIND, i, i, i);
            Check.same("a find takes no era", x.total(Check.ERA), i);
            Check.whole("remove", x, 0, Check.REMOVE, i, i, i);
            Check.same("a node that is retired takes one", x.total(Check.ERA), i + 1);
        }
    }

    private static void states() {
        SplitStore x = new SplitStore();
        x.start(0, Check.INSERT, 5, 50);
        x.run(0, 4);
        Check.same("free before the own node", x.total(Check.FREE), 63);
        x.step(0);
        Check.same("an own node is not free", x.total(Check.FREE), 62);
        Check.same("nor retired", x.total(Check.RETIRED), 0);
        Check.same("nor counted", x.total(Check.COUNT), 0);
        x.run(0, 1000);
        Check.same("count", x.total(Check.COUNT), 1);
        x.start(0, Check.REMOVE, 5, 0);
        x.run(0, 6);
        Check.same("a marked one does not count", x.total(Check.COUNT), 0);
        Check.same("but is not retired", x.total(Check.RETIRED), 0);
        x.step(0);
        Check.same("retired", x.total(Check.RETIRED), 1);
        Check.same("not free", x.total(Check.FREE), 62);
        x.run(0, 1000);
        Check.whole("insert", x, 0, Check.INSERT, 6, 60, 1);
        Check.whole("remove", x, 0, Check.REMOVE, 6, 0, 60);
        Check.same("the one is free, the other retired", x.total(Check.RETIRED), 1);
        Check.same("free", x.total(Check.FREE), 62);
    }

    private static void noSuchTotal() {
        SplitStore x = new SplitStore();
        int[] wrong = {-1, 5, Integer.MIN_VALUE, Integer.MAX_VALUE};
        for (int what : wrong) {
            Check.same("total(" + what + ")", x.total(what), Check.NONE);
        }
    }
}
