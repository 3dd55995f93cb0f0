/** The terms that the promises rest on: hashes, orders, parents and the bucket of a key, at each of their edges. */
final class TermsTest {
    private static final int[] PARENT = {0, 0, 0, 1, 0, 1, 2, 3, 0, 1, 2, 3, 4, 5, 6, 7};

    public static void main(String[] args) {
        orderOfEachKey();
        lowestAndHighestOrder();
        keysOnBothSidesOfABucket();
        parentOfEachBucket();
        hashModuloEachSize();
        hashOfSixteenIsBucketZero();
        Check.finish();
    }

    private static void orderOfEachKey() {
        for (int key = 0; key < 256; key++) {
            SplitStore x = new SplitStore();
            Check.whole("insert " + key, x, 0, Check.INSERT, key, 9, 1);
            String bits = Integer.toBinaryString(256 + key * 167 % 256).substring(1);
            int turned = Integer.parseInt(new StringBuilder(bits).reverse().toString(), 2);
            Check.same("order of key " + key, x.node(1, Check.ORDER), 2 * turned + 1);
        }
    }

    /** Key 0 has hash 0, and 233 * 167 is 152 * 256 less 1, so that key 233 has hash 255. */
    private static void lowestAndHighestOrder() {
        SplitStore x = new SplitStore();
        Check.whole("insert", x, 0, Check.INSERT, 233, 1, 1);
        Check.whole("insert", x, 0, Check.INSERT, 0, 2, 1);
        Check.same("highest", x.node(1, Check.ORDER), 511);
        Check.same("lowest", x.node(2, Check.ORDER), 1);
        Check.same("the lowest is behind bucket 0", x.node(0, Check.NEXT), 2);
        Check.same("the highest is the last", x.node(2, Check.NEXT), 1);
    }

    /** Orders 255, 256 and 257 follow one another: bucket 1 comes between two keys, and its own key is behind it. */
    private static void keysOnBothSidesOfABucket() {
        SplitStore x = Check.storeOf(127, 128, 10);
        Check.same("order before", x.node(1, Check.ORDER), 255);
        Check.same("order behind", x.node(2, Check.ORDER), 257);
        Check.same("size", x.total(Check.SIZE), 2);
        Check.begin("find", x, 1, Check.FIND, Check.keyAt(128), 0);
        Check.steps("find", x, 1, 2, 2, 3, 4, 5, 4, 5, 4, 5, 7, 8, 9, 3, 4, 5, 0);
        Check.same("found", x.result(1), 128);
        Check.same("bucket 1", x.bucket(1), 4);
        Check.same("order of bucket 1", x.node(4, Check.ORDER), 256);
        Check.same("before", x.node(1, Check.NEXT), 4);
        Check.same("behind", x.node(4, Check.NEXT), 2);
    }

    private static void parentOfEachBucket() {
        for (int b = 1; b < 16; b++) {
            SplitStore x = Check.storeWith(17);
            boolean[] due = new boolean[16];
            int chain = 0;
            for (int up = b; up != 0; up = PARENT[up]) {
                due[up] = true;
                chain++;
            }
            Check.begin("bucket " + b, x, 1, Check.FIND, Check.keyOf(b), 0);
            Check.same("steps to place 3", x.run(1, 2 + chain), 2 + chain);
            Check.same("place", x.process(1, Check.PLACE), 3);
            Check.same("stack for bucket " + b, x.process(1, Check.STACK), chain);
            x.run(1, 1000);
            for (int other = 1; other < 16; other++) {
                Check.same("bucket " + other + " for " + b, x.bucket(other) == Check.NONE ? 0 : 1, due[other] ? 1 : 0);
            }
            Check.same("free", x.total(Check.FREE), 64 - 1 - 17 - chain);
        }
    }

    /** Hash 255 is all ones, so its bucket is the last one that is in use. */
    private static void hashModuloEachSize() {
        int[] keys = {0, 3, 5, 9, 17};
        for (int i = 0; i < keys.length; i++) {
            SplitStore x = Check.storeWith(keys[i]);
            int size = 1 << i;
            Check.same("size with " + keys[i], x.total(Check.SIZE), size);
            Check.whole("find", x, 1, Check.FIND, Check.keyOf(255), 0, Check.NONE);
            Check.holds("bucket " + (size - 1), x.bucket(size - 1) != Check.NONE);
            Check.same("bucket " + size, x.bucket(size), Check.NONE);
            Check.same("free", x.total(Check.FREE), 64 - 1 - keys[i] - i);
        }
    }

    private static void hashOfSixteenIsBucketZero() {
        SplitStore x = Check.storeWith(17);
        Check.begin("hash 16", x, 1, Check.FIND, Check.keyOf(16), 0);
        Check.steps("hash 16", x, 1, 2, 3);
        Check.same("stack", x.process(1, Check.STACK), 0);
    }
}
