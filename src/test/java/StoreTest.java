import java.util.Random;
import java.util.TreeMap;

/** What the promises come to: alone, an operation does what a map does; together, the list stays in order. */
final class StoreTest {
    public static void main(String[] args) {
        exampleOfTheReadme();
        for (int seed = 0; seed < 200; seed++) {
            aloneLikeAMap(new Random(seed), "alone " + seed);
            togetherInOrder(new Random(seed), "together " + seed);
        }
        Check.finish();
    }

    private static void exampleOfTheReadme() {
        SplitStore store = new SplitStore();
        Check.holds("start(0, 1, 5, 50)", store.start(0, 1, 5, 50));
        Check.holds("start(1, 0, 5, 0)", store.start(1, 0, 5, 0));
        Check.same("step(0)", store.step(0), 2);
        Check.same("run(0, 1000)", store.run(0, 1000), 6);
        Check.same("run(1, 1000)", store.run(1, 1000), 5);
        Check.same("result(0)", store.result(0), 1);
        Check.same("result(1)", store.result(1), 50);
        Check.same("total(1)", store.total(1), 1);
    }

    private static void aloneLikeAMap(Random random, String what) {
        SplitStore x = new SplitStore();
        TreeMap<Integer, Integer> map = new TreeMap<>();
        for (int i = 0; i < 120; i++) {
            int p = random.nextInt(4);
            int key = random.nextInt(30);
            int value = random.nextInt(1000001);
            int due;
            int operation = random.nextInt(3);
            if (operation == Check.FIND) {
                due = map.getOrDefault(key, Check.NONE);
            } else if (operation == Check.INSERT) {
                due = map.putIfAbsent(key, value) == null ? 1 : 0;
            } else {
                Integer old = map.remove(key);
                due = old == null ? Check.NONE : old;
            }
            Check.whole(what, x, p, operation, key, value, due);
        }
        Check.same(what + ": count", x.total(Check.COUNT), map.size());
    }

    private static void togetherInOrder(Random random, String what) {
        SplitStore x = new SplitStore();
        for (int i = 0; i < 150; i++) {
            int p = random.nextInt(4);
            if (!x.start(p, random.nextInt(3), random.nextInt(20), i)) {
                x.run(p, random.nextInt(9));
            }
        }
        int keys = 0;
        int order = -1;
        for (int n = 0; n != Check.NONE; n = x.node(n, Check.NEXT)) {
            Check.same(what + ": a node of the list is there", x.node(n, Check.STATE), 1);
            Check.holds(what + ": the orders go up", x.node(n, Check.ORDER) > order);
            order = x.node(n, Check.ORDER);
            boolean isKey = order % 2 == 1;
            keys += isKey && x.node(n, Check.MARK) == 0 ? 1 : 0;
        }
        Check.same(what + ": count", x.total(Check.COUNT), keys);
    }
}
