/** Promise 2: which operations begin, and that a refused one leaves all as it was. */
final class StartTest {
    private static final int K10 = Check.keyAt(10), K20 = Check.keyAt(20), K30 = Check.keyAt(30);
    private static final int LEAST = Integer.MIN_VALUE, MOST = Integer.MAX_VALUE;

    private static final boolean[] refusedAt = new boolean[14];

    public static void main(String[] args) {
        edgesBegin();
        eachKeyBegins();
        noSuchProcess();
        noSuchOperation();
        noSuchKey();
        noSuchValue();
        wrongInMoreThanOne();
        onlyIdleProcessesBegin();
        refusedAtEachPlace();
        refusalChangesNothing();
        beginningIsNoStep();
        Check.finish();
    }

    private static void edgesBegin() {
        int[][] right = {{0, 0, 0, 0}, {3, 2, 255, 1000000}, {1, 1, 0, 1000000}, {2, 0, 255, 0}};
        for (int[] r : right) {
            SplitStore x = new SplitStore();
            Check.holds("start of " + r[0] + " " + r[1] + " " + r[2] + " " + r[3], x.start(r[0], r[1], r[2], r[3]));
            Check.same("place", x.process(r[0], Check.PLACE), 1);
        }
    }

    private static void eachKeyBegins() {
        for (int key = 0; key < 256; key++) {
            SplitStore x = new SplitStore();
            for (int p = 0; p < 4; p++) {
                Check.holds("key " + key, x.start(p, p % 3, key, 0));
            }
        }
    }

    private static void refused(int process, int operation, int key, int value) {
        SplitStore x = new SplitStore();
        Check.refused("start of " + process + " " + operation + " " + key + " " + value,
            x.start(process, operation, key, value));
        for (int p = 0; p < 4; p++) {
            Check.same("place of process " + p, x.process(p, Check.PLACE), 0);
        }
    }

    private static void noSuchProcess() {
        for (int process : new int[] {-1, 4, LEAST, MOST}) {
            refused(process, Check.INSERT, 5, 50);
        }
    }

    private static void noSuchOperation() {
        for (int operation : new int[] {-1, 3, LEAST, MOST}) {
            refused(0, operation, 5, 50);
        }
    }

    private static void noSuchKey() {
        for (int key : new int[] {-1, 256, LEAST, MOST}) {
            for (int operation = 0; operation < 3; operation++) {
                refused(0, operation, key, 50);
            }
        }
    }

    /** A find and a remove do not use the value, but refuse a wrong one too. */
    private static void noSuchValue() {
        for (int value : new int[] {-1, 1000001, LEAST, MOST}) {
            for (int operation = 0; operation < 3; operation++) {
                refused(0, operation, 5, value);
            }
        }
    }

    private static void wrongInMoreThanOne() {
        refused(4, 3, 256, 1000001);
        refused(-1, -1, -1, -1);
        refused(0, 1, -1, 1000001);
    }

    private static void onlyIdleProcessesBegin() {
        SplitStore x = new SplitStore();
        Check.holds("first", x.start(2, 1, 5, 50));
        Check.refused("at place 1", x.start(2, 1, 6, 60));
        x.step(2);
        Check.refused("at place 2", x.start(2, 0, 6, 60));
        Check.holds("another process", x.start(1, 1, 6, 60));
        x.run(2, 100);
        Check.holds("idle again", x.start(2, 0, 5, 0));
        x.run(2, 100);
        Check.same("the refused starts did not come between", x.result(2), 50);
    }

    private static void refusedOnTheWay(SplitStore x, int process, int operation, int key) {
        Check.begin("on the way", x, process, operation, key, 7);
        for (int place = 1; place != 0; place = x.step(process)) {
            Check.refused("at place " + place, x.start(process, Check.FIND, key, 7));
            refusedAt[place] = true;
        }
    }

    /** A remove, an insert that makes a bucket, and a find that takes out what another has marked, come to each place. */
    private static void refusedAtEachPlace() {
        SplitStore x = Check.storeOf(10, 20, 30);
        refusedOnTheWay(x, 1, Check.REMOVE, K10);
        refusedOnTheWay(x, 1, Check.INSERT, Check.keyOf(1));
        Check.begin("marks", x, 2, Check.REMOVE, K20, 0);
        x.run(2, 6);
        Check.same("marked", x.process(2, Check.PLACE), 11);
        refusedOnTheWay(x, 1, Check.FIND, K30);
        for (int place = 1; place < 14; place++) {
            Check.holds("it was refused at place " + place, refusedAt[place]);
        }
        Check.same("the find found", x.result(1), 30);
    }

    private static void refusalChangesNothing() {
        SplitStore x = new SplitStore();
        x.start(0, Check.INSERT, 5, 50);
        x.run(0, 4);
        Check.refused("in the midst of an insert", x.start(0, Check.REMOVE, 9, 90));
        Check.same("place", x.process(0, Check.PLACE), 7);
        x.run(0, 100);
        Check.same("result of the insert", x.result(0), 1);
        Check.whole("find", x, 1, Check.FIND, 5, 0, 50);
        Check.whole("find", x, 1, Check.FIND, 9, 0, Check.NONE);
    }

    private static void beginningIsNoStep() {
        SplitStore x = new SplitStore();
        Check.whole("insert", x, 0, Check.INSERT, 5, 50, 1);
        x.start(0, Check.FIND, 5, 0);
        Check.same("low before the first step", x.process(0, Check.LOW), 0);
        Check.same("high before the first step", x.process(0, Check.HIGH), 0);
        Check.same("the latest result stays", x.result(0), 1);
        Check.same("era", x.total(Check.ERA), 1);
    }
}
