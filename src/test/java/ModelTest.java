import java.util.NoSuchElementException;
import java.util.Random;
import java.util.function.IntSupplier;

/** Promises 1 to 9 together: long runs of calls in many orders, each answer held against the Model's. */
final class ModelTest {
    private static final int RUNS = 6000, CALLS = 512, MISSING = Integer.MIN_VALUE;

    /** How a run of calls is made: how many keys it uses, and how often a start, a run and a question comes. */
    private record Kind(int keys, int starts, int runs, int questions, int inserts) { }

    private static final Kind[] KINDS = {
        new Kind(3, 60, 10, 60, 45),
        new Kind(8, 60, 20, 60, 50),
        new Kind(24, 80, 60, 40, 60),
        new Kind(256, 140, 140, 30, 90),
        new Kind(90, 160, 150, 30, 70),
        new Kind(2, 50, 2, 100, 45),
    };

    public static void main(String[] args) {
        for (int run = 0; run < RUNS; run++) {
            oneRun(run, KINDS[run % KINDS.length]);
        }
        Check.finish();
    }

    private static void oneRun(int run, Kind kind) {
        Random random = new Random(run);
        int[] keys = random.ints(kind.keys(), 0, 256).toArray();
        SplitStore x = new SplitStore();
        Model m = new Model();
        for (int call = 0; call < CALLS; call++) {
            int dice = random.nextInt(400);
            String what = "run " + run + " call " + call;
            if (dice < kind.starts()) {
                compareStart(what, x, m, random, keys[random.nextInt(keys.length)], kind.inserts());
            } else if (dice < kind.starts() + kind.runs()) {
                int p = processOf(random);
                int n = random.nextInt(20) == 0 ? random.nextInt(1100) - 50 : random.nextInt(60);
                Check.same(what + ": run(" + p + ", " + n + ")", x.run(p, n), m.run(p, n));
            } else if (dice < kind.starts() + kind.runs() + kind.questions()) {
                compareQuestion(what, x, m, random);
            } else {
                int p = processOf(random);
                Check.same(what + ": step(" + p + ")", x.step(p), m.step(p));
            }
        }
    }

    private static void compareStart(String what, SplitStore x, Model m, Random random, int key, int inserts) {
        int p = processOf(random);
        int dice = random.nextInt(100);
        int operation = dice < inserts ? 1 : dice < (inserts + 100) / 2 ? 2 : 0;
        int value = random.nextInt(1000001);
        boolean got = x.start(p, operation, key, value);
        Check.same(what + ": start(" + p + ", " + operation + ", " + key + ", " + value + ")",
            got ? 1 : 0, m.start(p, operation, key, value) ? 1 : 0);
    }

    private static void compareQuestion(String what, SplitStore x, Model m, Random random) {
        int p = processOf(random);
        int n = random.nextInt(3) == 0 ? random.nextInt(66) - 1 : random.nextInt(12);
        int b = random.nextInt(18) - 1;
        int part = random.nextInt(11) - 1;
        switch (random.nextInt(5)) {
            case 0 -> compare(what + ": result(" + p + ")", () -> x.result(p), () -> m.result(p));
            case 1 -> compare(what + ": process(" + p + ", " + part + ")", () -> x.process(p, part), () -> m.process(p, part));
            case 2 -> compare(what + ": node(" + n + ", " + part + ")", () -> x.node(n, part), () -> m.node(n, part));
            case 3 -> compare(what + ": bucket(" + b + ")", () -> x.bucket(b), () -> m.bucket(b));
            default -> compare(what + ": total(" + part + ")", () -> x.total(part), () -> m.total(part));
        }
    }

    private static void compare(String what, IntSupplier got, IntSupplier due) {
        Check.same(what, answer(got), answer(due));
    }

    private static int answer(IntSupplier call) {
        try {
            return call.getAsInt();
        } catch (NoSuchElementException e) {
            return MISSING;
        }
    }

    private static int processOf(Random random) {
        return random.nextInt(60) == 0 ? random.nextInt(8) - 2 : random.nextInt(4);
    }
}
