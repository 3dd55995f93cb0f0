/** Promise 7: the numbers of a node from its birth until it is taken again. */
final class NodeTest {
    private static final int K10 = Check.keyAt(10), K20 = Check.keyAt(20), K30 = Check.keyAt(30);

    public static void main(String[] args) {
        aLife();
        freeWithoutHavingDied();
        aBucketsNodeThatBecameFree();
        asItWasWhileTheListGoesOn();
        orders();
        noSuchThing();
        Check.finish();
    }

    private static void all(String what, SplitStore x, int n, int... due) {
        for (int i = 0; i < due.length; i++) {
            Check.same(what + ": node(" + n + ", " + i + ")", x.node(n, i), due[i]);
        }
    }

    private static void aLife() {
        SplitStore x = new SplitStore();
        Check.whole("insert", x, 0, Check.INSERT, K10, 100, 1);
        Check.whole("insert", x, 0, Check.INSERT, K20, 200, 1);
        all("bucket 0", x, 0, 1, 0, 1, 0, Check.NONE, 0, 1, 0);
        all("there", x, 1, 1, 21, 2, 0, K10, 100, 1, 0);
        all("there, the last", x, 2, 1, 41, Check.NONE, 0, K20, 200, 1, 0);
        x.start(0, Check.REMOVE, K10, 0);
        x.run(0, 6);
        all("marked", x, 1, 1, 21, 2, 1, K10, 100, 1, 0);
        x.step(0);
        all("retired", x, 1, 2, 21, 2, 1, K10, 100, 1, 1);
        x.run(0, 1000);
        all("retired still", x, 1, 2, 21, 2, 1, K10, 100, 1, 1);
        Check.whole("remove", x, 0, Check.REMOVE, K20, 0, 200);
        all("free, as it was", x, 1, 0, 21, 2, 1, K10, 100, 1, 1);
        all("retired, the last", x, 2, 2, 41, Check.NONE, 1, K20, 200, 1, 2);
        Check.whole("insert", x, 0, Check.INSERT, K30, 300, 1);
        all("there again, with nothing of its first life", x, 1, 1, 61, Check.NONE, 0, K30, 300, 3, 0);
        all("never used", x, 3, 0, 0, Check.NONE, 0, Check.NONE, 0, 0, 0);
    }

    private static void freeWithoutHavingDied() {
        SplitStore x = new SplitStore();
        x.start(1, Check.INSERT, K10, 11);
        x.run(1, 5);
        all("its own", x, 1, 1, 21, Check.NONE, 0, K10, 11, 1, 0);
        Check.whole("insert", x, 0, Check.INSERT, K10, 12, 1);
        x.run(1, 1000);
        Check.same("too late", x.result(1), 0);
        all("free", x, 1, 0, 21, Check.NONE, 0, K10, 11, 1, 0);
        Check.same("free", x.total(Check.FREE), 62);
        Check.whole("the lowest free one is taken", x, 1, Check.INSERT, K20, 20, 1);
        all("taken", x, 1, 1, 41, Check.NONE, 0, K20, 20, 1, 0);
    }

    /** Two make a node for bucket 1; that of the later one becomes free at place 9. */
    private static void aBucketsNodeThatBecameFree() {
        SplitStore x = Check.storeOf(10, 20, 200);
        x.start(1, Check.FIND, Check.keyOf(1), 0);
        x.run(1, 11);
        Check.same("place", x.process(1, Check.PLACE), 8);
        Check.whole("the other one", x, 0, Check.FIND, Check.keyOf(1), 0, Check.NONE);
        all("its own", x, 4, 1, 256, 3, 0, Check.NONE, 0, 1, 0);
        x.run(1, 1000);
        all("free", x, 4, 0, 256, 3, 0, Check.NONE, 0, 1, 0);
        all("the bucket's", x, x.bucket(1), 1, 256, 3, 0, Check.NONE, 0, 1, 0);
    }

    /** Node 1 led to node 2 when it was taken out; that it does still, though node 2 lives on as another key. */
    private static void asItWasWhileTheListGoesOn() {
        SplitStore x = Check.storeOf(10, 20, 30);
        Check.whole("remove", x, 0, Check.REMOVE, K10, 0, 10);
        Check.whole("remove", x, 0, Check.REMOVE, K20, 0, 20);
        Check.whole("insert", x, 0, Check.INSERT, Check.keyAt(40), 40, 1);
        all("taken again", x, 1, 1, 81, Check.NONE, 0, Check.keyAt(40), 40, 3, 0);
        Check.whole("remove", x, 0, Check.REMOVE, K30, 0, 30);
        all("free", x, 2, 0, 41, 3, 1, K20, 20, 1, 2);
        Check.whole("insert", x, 0, Check.INSERT, K10, 11, 1);
        all("taken again, with next and mark of its own", x, 2, 1, 21, 1, 0, K10, 11, 4, 0);
    }

    /** The orders of some keys worked out by hand from key * 167 modulo 256. */
    private static void orders() {
        int[] keys = {0, 1, 2, 5, 20, 128, 255};
        int[] hashes = {0, 167, 78, 67, 12, 128, 89};
        int[] turned = {0, 229, 114, 194, 48, 1, 154};
        for (int i = 0; i < keys.length; i++) {
            Check.same("hash", keys[i] * 167 % 256, hashes[i]);
            SplitStore x = new SplitStore();
            Check.whole("insert", x, 0, Check.INSERT, keys[i], 9, 1);
            Check.same("order of key " + keys[i], x.node(1, Check.ORDER), 2 * turned[i] + 1);
            Check.same("key", x.node(1, Check.KEY), keys[i]);
        }
    }

    private static void noSuchThing() {
        SplitStore x = new SplitStore();
        int[] wrong = {-1, 64, Integer.MIN_VALUE, Integer.MAX_VALUE};
        for (int n : wrong) {
            Check.missing("node(" + n + ", 0)", () -> x.node(n, 0));
            Check.missing("node(" + n + ", 8)", () -> x.node(n, 8));
        }
        int[] whats = {-1, 8, Integer.MIN_VALUE, Integer.MAX_VALUE};
        for (int what : whats) {
            Check.missing("node(0, " + what + ")", () -> x.node(0, what));
            Check.missing("node(63, " + what + ")", () -> x.node(63, what));
        }
        Check.same("the last node", x.node(63, Check.STATE), 0);
    }
}
