import java.util.List;
import java.util.function.Consumer;

/** Calls that are refused, or that have nothing to do, leave everything that can be asked as it was. */
final class RefusedTest {
    private static final int[] NO_PROCESS = {-1, 4, Integer.MIN_VALUE, Integer.MAX_VALUE};
    private static final int[] NO_NODE = {-1, 64, Integer.MIN_VALUE, Integer.MAX_VALUE};
    private static final int[] NO_BUCKET = {-1, 16, Integer.MIN_VALUE, Integer.MAX_VALUE};
    private static final int[] NO_KEY = {-1, 256, Integer.MIN_VALUE, Integer.MAX_VALUE};
    private static final int[] NO_VALUE = {-1, 1000001, Integer.MIN_VALUE, Integer.MAX_VALUE};
    private static final int[] NO_OPERATION = {-1, 3, Integer.MIN_VALUE, Integer.MAX_VALUE};
    private static final int[] NO_N = {-1, 1001, Integer.MIN_VALUE, Integer.MAX_VALUE};
    private static final int[] NO_WHAT = {-1, 9, Integer.MIN_VALUE, Integer.MAX_VALUE};
    private static final int K10 = Check.keyAt(10), K20 = Check.keyAt(20), K25 = Check.keyAt(25), K30 = Check.keyAt(30);
    private static final int IDLE_PROCESS = 3;

    private static final List<Integer> BEFORE = Check.stateOf(RefusedTest::midway);

    public static void main(String[] args) {
        unchanged("start of no process", x -> each(NO_PROCESS, p -> x.start(p, 1, 5, 50)));
        unchanged("start of no operation", x -> each(NO_OPERATION, o -> x.start(IDLE_PROCESS, o, 5, 50)));
        unchanged("start with no key", x -> each(NO_KEY, k -> x.start(IDLE_PROCESS, 1, k, 50)));
        unchanged("start with no value", x -> each(NO_VALUE, v -> x.start(IDLE_PROCESS, 1, 5, v)));
        unchanged("start of one that is not idle", RefusedTest::startBusy);
        unchanged("step of no process", x -> each(NO_PROCESS, x::step));
        unchanged("step of an idle one", x -> x.step(IDLE_PROCESS));
        unchanged("run of no process", x -> each(NO_PROCESS, p -> x.run(p, 5)));
        unchanged("run of no number", x -> each(NO_N, n -> x.run(1, n)));
        unchanged("run of no step", x -> x.run(1, 0));
        unchanged("run of an idle one", x -> x.run(IDLE_PROCESS, 1000));
        unchanged("result of no process", x -> each(NO_PROCESS, p -> Check.missing("result", () -> x.result(p))));
        unchanged("process of no process", x -> each(NO_PROCESS, p -> Check.missing("process", () -> x.process(p, 0))));
        unchanged("process of no what", x -> each(NO_WHAT, w -> Check.missing("process", () -> x.process(1, w))));
        unchanged("node of no node", x -> each(NO_NODE, n -> Check.missing("node", () -> x.node(n, 0))));
        unchanged("node of no what", x -> each(NO_WHAT, w -> Check.missing("node", () -> x.node(1, w))));
        unchanged("no bucket", x -> each(NO_BUCKET, x::bucket));
        unchanged("no total", x -> each(NO_WHAT, x::total));
        aChangeWouldShow();
        Check.finish();
    }

    /** Process 0 is at place 11, 1 at place 8, 2 at place 5, 3 is idle with a result and a row. */
    private static SplitStore midway() {
        SplitStore x = Check.storeOf(10, 20, 30);
        Check.whole("remove", x, IDLE_PROCESS, Check.REMOVE, K20, 0, 20);
        x.start(1, Check.INSERT, K20, 21);
        x.run(1, 8);
        x.start(2, Check.FIND, K30, 0);
        x.run(2, 4);
        x.start(0, Check.REMOVE, K30, 0);
        x.run(0, 8);
        Check.same("place of 0", x.process(0, Check.PLACE), 11);
        Check.same("place of 1", x.process(1, Check.PLACE), 8);
        Check.same("place of 2", x.process(2, Check.PLACE), 5);
        return x;
    }

    private static void startBusy(SplitStore x) {
        for (int p = 0; p < 3; p++) {
            Check.refused("start of busy " + p, x.start(p, 1, K25, 25));
            Check.refused("start of busy " + p, x.start(p, 0, K10, 0));
        }
    }

    private static void each(int[] numbers, Consumer<Integer> call) {
        for (int number : numbers) {
            call.accept(number);
        }
    }

    private static List<Integer> stateBehind(Consumer<SplitStore> call) {
        return Check.stateOf(() -> {
            SplitStore x = midway();
            call.accept(x);
            return x;
        });
    }

    /** Asked at once, and once more when all have gone on to their ends. */
    private static void unchanged(String what, Consumer<SplitStore> call) {
        Check.holds(what + " changes nothing", stateBehind(call).equals(BEFORE));
        List<Integer> ends = stateBehind(RefusedTest::allToTheEnd);
        Check.holds(what + " changes no end", stateBehind(call.andThen(RefusedTest::allToTheEnd)).equals(ends));
    }

    private static void allToTheEnd(SplitStore x) {
        for (int p = 0; p < 4; p++) {
            x.run(p, 1000);
        }
    }

    private static void aChangeWouldShow() {
        for (int p = 0; p < 3; p++) {
            int process = p;
            Check.refused("a step of " + p + " shows", stateBehind(x -> x.step(process)).equals(BEFORE));
        }
        Check.refused("a start shows", stateBehind(x -> x.start(IDLE_PROCESS, 0, 0, 0)).equals(BEFORE));
    }
}
