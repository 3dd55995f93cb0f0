/** Promise 6: the numbers of a process at each place of an operation. */
final class ProcessTest {
    private static final int K10 = Check.keyAt(10), K20 = Check.keyAt(20), K30 = Check.keyAt(30);

    public static void main(String[] args) {
        alongAnInsert();
        alongARemove();
        theStack();
        idleBehindFull();
        atPlaceOne();
        noSuchThing();
        Check.finish();
    }

    private static void all(String what, SplitStore x, int p, int... due) {
        for (int i = 0; i < due.length; i++) {
            Check.same(what + ": process(" + p + ", " + i + ")", x.process(p, i), due[i]);
        }
    }

    private static void stepTo(SplitStore x, int p, int... due) {
        x.step(p);
        all("at place " + due[0], x, p, due);
    }

    private static void alongAnInsert() {
        SplitStore x = new SplitStore();
        Check.whole("insert", x, 0, Check.INSERT, K10, 10, 1);
        Check.whole("insert", x, 0, Check.INSERT, K30, 30, 1);
        x.start(2, Check.INSERT, K20, 20);
        all("started", x, 2, 1, 0, 0, 0, 0, -1, -1, -1, -1);
        stepTo(x, 2, 2, 1, 1, 0, 0, -1, -1, -1, -1);
        stepTo(x, 2, 3, 1, 1, 0, 0, -1, -1, -1, -1);
        stepTo(x, 2, 4, 1, 1, 0, 0, 0, 1, -1, -1);
        stepTo(x, 2, 5, 1, 1, 0, 0, 0, 1, 2, -1);
        stepTo(x, 2, 4, 1, 1, 0, 0, 1, 2, 2, -1);
        stepTo(x, 2, 5, 1, 1, 0, 0, 1, 2, -1, -1);
        stepTo(x, 2, 7, 1, 1, 0, 0, 1, 2, -1, -1);
        stepTo(x, 2, 8, 1, 1, 0, 0, 1, 2, -1, 3);
        stepTo(x, 2, 13, 1, 1, 0, 0, 1, 2, -1, -1);
        stepTo(x, 2, 0, 0, 0, 0, 0, -1, -1, -1, -1);
        all("another process", x, 1, 0, 0, 0, 0, 0, -1, -1, -1, -1);
    }

    private static void alongARemove() {
        SplitStore x = new SplitStore();
        Check.whole("insert", x, 0, Check.INSERT, K10, 10, 1);
        Check.whole("insert", x, 0, Check.INSERT, K30, 30, 1);
        x.start(1, Check.REMOVE, K10, 0);
        x.run(1, 4);
        stepTo(x, 1, 10, 1, 1, 0, 0, 0, 1, 2, -1);
        stepTo(x, 1, 11, 1, 1, 0, 0, 0, 1, 2, -1);
        stepTo(x, 1, 12, 1, 1, 1, 0, 0, 1, 2, -1);
        stepTo(x, 1, 0, 0, 0, 1, 0, -1, -1, -1, -1);
        Check.whole("remove", x, 1, Check.REMOVE, K30, 0, 30);
        all("the first left the row, the second is in it", x, 1, 0, 0, 0, 1, 0, -1, -1, -1, -1);
    }

    private static void theStack() {
        SplitStore x = Check.storeWith(5);
        Check.same("size", x.total(Check.SIZE), 4);
        x.start(3, Check.FIND, Check.keyOf(3), 0);
        stepTo(x, 3, 2, 1, 1, 0, 0);
        stepTo(x, 3, 2, 1, 1, 0, 1);
        stepTo(x, 3, 2, 1, 1, 0, 2);
        stepTo(x, 3, 3, 1, 1, 0, 2);
        while (x.process(3, Check.PLACE) != 9) {
            x.step(3);
        }
        stepTo(x, 3, 3, 1, 1, 0, 1);
        stepTo(x, 3, 4, 1, 1, 0, 1, x.bucket(1), -1);
        stepTo(x, 3, 7, 1, 1, 0, 1);
        stepTo(x, 3, 8, 1, 1, 0, 1);
        stepTo(x, 3, 9, 1, 1, 0, 1);
        stepTo(x, 3, 3, 1, 1, 0, 0);
        stepTo(x, 3, 4, 1, 1, 0, 0, x.bucket(3), -1);
        stepTo(x, 3, 0, 0, 0, 0, 0, -1, -1, -1, -1);
    }

    /** An idle process has no stack and no nodes, even where its operation ended with buckets on the stack. */
    private static void idleBehindFull() {
        SplitStore x = Check.storeOfFours(60);
        x.start(1, Check.FIND, 1, 0);
        x.run(1, 5);
        Check.same("stack of 7, 3, 1", x.process(1, Check.STACK), 3);
        x.run(1, 1000);
        Check.same("full", x.result(1), Check.FULL);
        all("idle", x, 1, 0, 0, 0, 0, 0, -1, -1, -1, -1);
        x.start(1, Check.FIND, 8, 0);
        all("started anew", x, 1, 1, 0, 0, 0, 0, -1, -1, -1, -1);
        x.run(1, 1000);
        Check.same("found", x.result(1), 2);
    }

    private static void atPlaceOne() {
        SplitStore x = new SplitStore();
        Check.whole("insert", x, 0, Check.INSERT, K10, 10, 1);
        Check.whole("find", x, 0, Check.FIND, K10, 0, 10);
        x.start(0, Check.FIND, K10, 0);
        all("nothing is left of the operation before", x, 0, 1, 0, 0, 0, 0, -1, -1, -1, -1);
        x.run(0, 2);
        all("nor at place 3", x, 0, 3, 1, 1, 0, 0, -1, -1, -1, -1);
    }

    private static void noSuchThing() {
        SplitStore x = new SplitStore();
        int[] wrong = {-1, 4, Integer.MIN_VALUE, Integer.MAX_VALUE};
        for (int p : wrong) {
            Check.missing("process(" + p + ", 0)", () -> x.process(p, 0));
            Check.missing("process(" + p + ", 9)", () -> x.process(p, 9));
        }
        int[] whats = {-1, 9, Integer.MIN_VALUE, Integer.MAX_VALUE};
        for (int what : whats) {
            Check.missing("process(0, " + what + ")", () -> x.process(0, what));
            Check.missing("process(3, " + what + ")", () -> x.process(3, what));
        }
    }
}
