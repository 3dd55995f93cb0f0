/** Promise 2: which operations begin, and that a refused one leaves all as it was. */
final class StartTest {
    public static void main(String[] args) {
        edgesBegin();
        wrongNumbersAreRefused();
        onlyIdleProcessesBegin();
        refusalChangesNothing();
        beginningIsNoStep();
        Check.finish();
    }

    private static void edgesBegin() {
        int[][] right = {{0, 0, 0, 0}, {3, 2, 255, 1000000}, {1, 1, 0, 1000000}, {2, 0, 255, 0}};
        for (int[] r : right) {
            SplitStore x = new SplitStore();
            Check.holds("start of " + r[0] + " " + r[1] + " " + r[2] + " " + r[3], x.start(r[0], r[1], r[2], r[3]));
            Check.same("place", x.process(r[0], Check.PLACE), 1);
        }
    }

    private static void wrongNumbersAreRefused() {
        int[] processes = {-1, 4, Integer.MIN_VALUE, Integer.MAX_VALUE};
        int[] operations = {-1, 3, Integer.MIN_VALUE, Integer.MAX_VALUE};
        int[] keys = {-1, 256, Integer.MIN_VALUE, Integer.MAX_VALUE};
        int[] values = {-1, 1000001, Integer.MIN_VALUE, Integer.MAX_VALUE};
        SplitStore x = new SplitStore();
        for (int i = 0; i < 4; i++) {
            Check.refused("process " + processes[i], x.start(processes[i], 1, 5, 50));
            Check.refused("operation " + operations[i], x.start(0, operations[i], 5, 50));
            for (int operation = 0; operation < 3; operation++) {
                Check.refused("operation " + operation + " key " + keys[i], x.start(0, operation, keys[i], 50));
                Check.refused("operation " + operation + " value " + values[i], x.start(0, operation, 5, values[i]));
            }
        }
        for (int p = 0; p < 4; p++) {
            Check.same("place of process " + p, x.process(p, Check.PLACE), 0);
        }
    }

    private static void onlyIdleProcessesBegin() {
        SplitStore x = new SplitStore();
        Check.holds("first", x.start(2, 1, 5, 50));
        Check.refused("at place 1", x.start(2, 1, 6, 60));
        x.step(2);
        Check.refused("at place 2", x.start(2, 0, 6, 60));
        Check.holds("another process", x.start(1, 1, 6, 60));
        x.run(2, 100);
        Check.holds("idle again", x.start(2, 0, 5, 0));
        x.run(2, 100);
        Check.same("the refused starts did not come between", x.result(2), 50);
    }

    private static void refusalChangesNothing() {
        SplitStore x = new SplitStore();
        x.start(0, Check.INSERT, 5, 50);
        x.run(0, 4);
        Check.refused("in the midst of an insert", x.start(0, Check.REMOVE, 9, 90));
        Check.same("place", x.process(0, Check.PLACE), 7);
        x.run(0, 100);
        Check.same("result of the insert", x.result(0), 1);
        Check.whole("find", x, 1, Check.FIND, 5, 0, 50);
        Check.whole("find", x, 1, Check.FIND, 9, 0, Check.NONE);
    }

    private static void beginningIsNoStep() {
        SplitStore x = new SplitStore();
        Check.whole("insert", x, 0, Check.INSERT, 5, 50, 1);
        x.start(0, Check.FIND, 5, 0);
        Check.same("low before the first step", x.process(0, Check.LOW), 0);
        Check.same("high before the first step", x.process(0, Check.HIGH), 0);
        Check.same("the latest result stays", x.result(0), 1);
        Check.same("era", x.total(Check.ERA), 1);
    }
}
