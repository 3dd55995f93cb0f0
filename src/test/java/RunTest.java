/** Promise 4: how many steps a run takes, and that it does what as many steps do. */
final class RunTest {
    public static void main(String[] args) {
        stopsWhenIdle();
        stopsAtN();
        wrongNumbers();
        doesWhatStepsDo();
        Check.finish();
    }

    private static void stopsWhenIdle() {
        SplitStore x = new SplitStore();
        Check.same("idle", x.run(0, 1000), 0);
        x.start(0, Check.INSERT, 5, 50);
        Check.same("an insert", x.run(0, 1000), 7);
        Check.same("place", x.process(0, Check.PLACE), 0);
        Check.same("idle again", x.run(0, 1000), 0);
        x.start(0, Check.FIND, 5, 0);
        Check.same("just as many as it takes", x.run(0, 5), 5);
        Check.same("place", x.process(0, Check.PLACE), 0);
    }

    private static void stopsAtN() {
        SplitStore x = new SplitStore();
        x.start(0, Check.INSERT, 5, 50);
        Check.same("none", x.run(0, 0), 0);
        Check.same("place", x.process(0, Check.PLACE), 1);
        Check.same("one", x.run(0, 1), 1);
        Check.same("place", x.process(0, Check.PLACE), 2);
        Check.same("five more", x.run(0, 5), 5);
        Check.same("place", x.process(0, Check.PLACE), 13);
        Check.same("no result yet", x.result(0), Check.NONE);
        Check.same("the last", x.run(0, 5), 1);
        Check.same("result", x.result(0), 1);
        Check.same("others did not go on", x.process(1, Check.PLACE), 0);
    }

    private static void wrongNumbers() {
        SplitStore x = new SplitStore();
        x.start(0, Check.INSERT, 5, 50);
        int[] numbers = {-1, 1001, Integer.MIN_VALUE, Integer.MAX_VALUE};
        int[] processes = {-1, 4, Integer.MIN_VALUE, Integer.MAX_VALUE};
        for (int i = 0; i < 4; i++) {
            Check.same("run(0, " + numbers[i] + ")", x.run(0, numbers[i]), Check.NONE);
            Check.same("run(1, " + numbers[i] + ") of an idle one", x.run(1, numbers[i]), Check.NONE);
            Check.same("run(" + processes[i] + ", 5)", x.run(processes[i], 5), Check.NONE);
            Check.same("run(" + processes[i] + ", 0)", x.run(processes[i], 0), Check.NONE);
        }
        Check.same("place", x.process(0, Check.PLACE), 1);
    }

    private static void doesWhatStepsDo() {
        SplitStore x = new SplitStore();
        SplitStore y = new SplitStore();
        for (int key = 0; key < 12; key++) {
            x.start(0, Check.INSERT, key, key);
            y.start(0, Check.INSERT, key, key);
            int steps = 1;
            while (y.step(0) != 0) {
                steps++;
            }
            Check.same("insert of " + key, x.run(0, 1000), steps);
        }
        for (int n = 0; n < 40; n++) {
            Check.same("next of " + n, x.node(n, Check.NEXT), y.node(n, Check.NEXT));
        }
    }
}
