/** Promise 8: which node a bucket has. */
final class BucketTest {
    public static void main(String[] args) {
        noSuchBucket();
        comesWithItsFirstUse();
        allSixteen();
        Check.finish();
    }

    private static void noSuchBucket() {
        SplitStore x = new SplitStore();
        int[] wrong = {-1, 16, Integer.MIN_VALUE, Integer.MAX_VALUE};
        for (int b : wrong) {
            Check.same("bucket(" + b + ")", x.bucket(b), Check.NONE);
        }
        Check.same("bucket(15)", x.bucket(15), Check.NONE);
        Check.same("bucket(0)", x.bucket(0), 0);
    }

    private static void comesWithItsFirstUse() {
        SplitStore x = Check.storeWith(3);
        Check.same("size", x.total(Check.SIZE), 2);
        Check.same("a doubled size makes no node", x.bucket(1), Check.NONE);
        Check.whole("a find makes it", x, 0, Check.FIND, Check.keyOf(1), 0, Check.NONE);
        Check.same("bucket(1)", x.bucket(1), 4);
        Check.same("its order", x.node(4, Check.ORDER), 256);
        Check.same("bucket(0)", x.bucket(0), 0);
    }

    /** One key for each hash 0 .. 15, behind seventeen that make the size 16. */
    private static void allSixteen() {
        SplitStore x = Check.storeWith(17);
        for (int b = 0; b < 16; b++) {
            x.start(1, Check.INSERT, Check.keyOf(b), b);
            x.run(1, 1000);
        }
        for (int b = 0; b < 16; b++) {
            int n = x.bucket(b);
            Check.holds("bucket " + b + " has a node", n != Check.NONE);
            Check.same("state", x.node(n, Check.STATE), 1);
            Check.same("order of bucket " + b, x.node(n, Check.ORDER), 2 * Check.turned(b));
            Check.same("key", x.node(n, Check.KEY), Check.NONE);
            Check.same("value", x.node(n, Check.VALUE), 0);
            Check.same("born", x.node(n, Check.BORN), 1);
        }
        Check.same("there are 16 of buckets and one a key", 64 - x.total(Check.FREE), 16 + x.total(Check.COUNT));
    }
}
