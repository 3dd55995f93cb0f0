/** Promise 5: the result of the latest operation that ended. */
final class ResultTest {
    public static void main(String[] args) {
        ofEachOperation();
        staysUntilTheNextEnds();
        ofEachProcess();
        whenFull();
        edgeValues();
        noSuchProcess();
        Check.finish();
    }

    private static void ofEachOperation() {
        SplitStore x = new SplitStore();
        Check.same("before", x.result(0), Check.NONE);
        Check.whole("find nothing", x, 0, Check.FIND, 5, 0, Check.NONE);
        Check.whole("remove nothing", x, 0, Check.REMOVE, 5, 0, Check.NONE);
        Check.whole("insert", x, 0, Check.INSERT, 5, 50, 1);
        Check.whole("insert again", x, 0, Check.INSERT, 5, 60, 0);
        Check.whole("find the first value", x, 0, Check.FIND, 5, 0, 50);
        Check.whole("remove", x, 0, Check.REMOVE, 5, 0, 50);
        Check.whole("find nothing", x, 0, Check.FIND, 5, 0, Check.NONE);
        Check.whole("insert anew", x, 0, Check.INSERT, 5, 60, 1);
        Check.whole("find", x, 0, Check.FIND, 5, 0, 60);
    }

    private static void staysUntilTheNextEnds() {
        SplitStore x = new SplitStore();
        x.start(0, Check.INSERT, 5, 50);
        for (int i = 0; i < 6; i++) {
            x.step(0);
            Check.same("in the midst of the first", x.result(0), Check.NONE);
        }
        x.step(0);
        Check.same("behind the first", x.result(0), 1);
        x.start(0, Check.FIND, 5, 0);
        for (int i = 0; i < 4; i++) {
            x.step(0);
            Check.same("in the midst of the second", x.result(0), 1);
        }
        x.step(0);
        Check.same("behind the second", x.result(0), 50);
        Check.same("asked again", x.result(0), 50);
    }

    private static void ofEachProcess() {
        SplitStore x = new SplitStore();
        for (int p = 0; p < 4; p++) {
            Check.whole("insert", x, p, Check.INSERT, 10 + p, 100 + p, 1);
            Check.whole("find", x, p, Check.FIND, 10 + p, 0, 100 + p);
        }
        for (int p = 0; p < 4; p++) {
            Check.same("result of " + p, x.result(p), 100 + p);
        }
    }

    private static void whenFull() {
        SplitStore x = Check.storeOfFours(60);
        Check.whole("insert without a free node", x, 1, Check.INSERT, 240, 1, Check.FULL);
        Check.whole("find whose bucket finds no free node", x, 2, Check.FIND, 1, 0, Check.FULL);
        Check.same("the other's result stays", x.result(1), Check.FULL);
        Check.whole("find", x, 1, Check.FIND, 8, 0, 2);
    }

    private static void edgeValues() {
        SplitStore x = new SplitStore();
        Check.whole("insert", x, 0, Check.INSERT, 0, 0, 1);
        Check.whole("insert", x, 0, Check.INSERT, 255, 1000000, 1);
        Check.whole("find value 0", x, 0, Check.FIND, 0, 9, 0);
        Check.whole("find the highest value", x, 0, Check.FIND, 255, 9, 1000000);
        Check.whole("remove value 0", x, 0, Check.REMOVE, 0, 9, 0);
        Check.whole("remove the highest value", x, 0, Check.REMOVE, 255, 9, 1000000);
    }

    private static void noSuchProcess() {
        SplitStore x = new SplitStore();
        int[] wrong = {-1, 4, Integer.MIN_VALUE, Integer.MAX_VALUE};
        for (int p : wrong) {
            Check.missing("result(" + p + ")", () -> x.result(p));
        }
    }
}
