/** Promise 4: how many steps a run takes, and that it does what as many steps do. */
final class RunTest {
    public static void main(String[] args) {
        stopsWhenIdle();
        stopsAtN();
        wrongNumbers();
        stepsThatStayCountToo();
        longestAndShortest();
        doesWhatStepsDo();
        Check.finish();
    }

    private static void stopsWhenIdle() {
        SplitStore x = new SplitStore();
        Check.same("idle", x.run(0, 1000), 0);
        x.start(0, Check.INSERT, 5, 50);
        Check.same("an insert", x.run(0, 1000), 7);
        Check.same("place", x.process(0, Check.PLACE), 0);
        Check.same("idle again", x.run(0, 1000), 0);
        x.start(0, Check.FIND, 5, 0);
        Check.same("just as many as it takes", x.run(0, 5), 5);
        Check.same("place", x.process(0, Check.PLACE), 0);
    }

    private static void stopsAtN() {
        SplitStore x = new SplitStore();
        x.start(0, Check.INSERT, 5, 50);
        Check.same("none", x.run(0, 0), 0);
        Check.same("place", x.process(0, Check.PLACE), 1);
        Check.same("one", x.run(0, 1), 1);
        Check.same("place", x.process(0, Check.PLACE), 2);
        Check.same("five more", x.run(0, 5), 5);
        Check.same("place", x.process(0, Check.PLACE), 13);
        Check.same("no result yet", x.result(0), Check.NONE);
        Check.same("the last", x.run(0, 5), 1);
        Check.same("result", x.result(0), 1);
        Check.same("others did not go on", x.process(1, Check.PLACE), 0);
    }

    private static void wrongNumbers() {
        SplitStore x = new SplitStore();
        x.start(0, Check.INSERT, 5, 50);
        int[] numbers = {-1, 1001, Integer.MIN_VALUE, Integer.MAX_VALUE};
        int[] processes = {-1, 4, Integer.MIN_VALUE, Integer.MAX_VALUE};
        for (int i = 0; i < 4; i++) {
            Check.same("run(0, " + numbers[i] + ")", x.run(0, numbers[i]), Check.NONE);
            Check.same("run(1, " + numbers[i] + ") of an idle one", x.run(1, numbers[i]), Check.NONE);
            Check.same("run(" + processes[i] + ", 5)", x.run(processes[i], 5), Check.NONE);
            Check.same("run(" + processes[i] + ", 0)", x.run(processes[i], 0), Check.NONE);
        }
        Check.same("place", x.process(0, Check.PLACE), 1);
    }

    private static void stepsThatStayCountToo() {
        SplitStore x = Check.storeOf(10, 20);
        x.start(1, Check.FIND, Check.keyAt(20), 0);
        x.run(1, 2);
        Check.whole("the era goes on", x, 0, Check.REMOVE, Check.keyAt(10), 0, 10);
        Check.same("one stays at place 3", x.run(1, 1), 1);
        Check.same("place", x.process(1, Check.PLACE), 3);
        Check.same("then three to the end", x.run(1, 1000), 3);
        Check.same("found", x.result(1), 20);
    }

    /** Behind 55 keys of the first buckets the first key of bucket 15 takes the longest way; a run of 1000 ends it. */
    private static void longestAndShortest() {
        SplitStore x = Check.storeOfFours(55);
        x.start(1, Check.INSERT, Check.keyOf(15), 15);
        int first = x.run(1, 100);
        Check.same("as many as are asked for", first, 100);
        Check.holds("it is not at its end", x.process(1, Check.PLACE) != 0);
        int second = x.run(1, 1000);
        Check.holds("fewer than are asked for", second > 0 && second < 1000);
        Check.same("inserted", x.result(1), 1);
        x.start(2, Check.FIND, Check.keyOf(15), 0);
        Check.same("now it has its bucket", x.run(2, 1000), 5);
        Check.same("found", x.result(2), 15);
    }

    private static void doesWhatStepsDo() {
        SplitStore x = new SplitStore();
        SplitStore y = new SplitStore();
        for (int key = 0; key < 12; key++) {
            x.start(0, Check.INSERT, key, key);
            y.start(0, Check.INSERT, key, key);
            int steps = 1;
            while (y.step(0) != 0) {
                steps++;
            }
            Check.same("insert of " + key, x.run(0, 1000), steps);
        }
        for (int n = 0; n < 40; n++) {
            Check.same("next of " + n, x.node(n, Check.NEXT), y.node(n, Check.NEXT));
        }
    }
}
