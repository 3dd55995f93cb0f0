/** Place 7 without a free node: the operation ends with FULL, whatever it is, and leaves nothing of its own. */
final class FullTest {
    public static void main(String[] args) {
        lastFreeNode();
        insertOfAKey();
        anyOperationThatMakesABucket();
        whatNeedsNoNodeGoesOn();
        fullBetweenTwoBuckets();
        fullBetweenBucketAndKey();
        ownNodesOfOthersAreTaken();
        retiredNodesAreTaken();
        Check.finish();
    }

    private static void lastFreeNode() {
        SplitStore x = Check.storeOfFours(59);
        Check.same("one is free", x.total(Check.FREE), 1);
        Check.same("the last node", x.node(63, Check.STATE), 0);
        Check.whole("it is taken", x, 1, Check.INSERT, 236, 59, 1);
        Check.same("none is free", x.total(Check.FREE), 0);
        Check.same("the last node", x.node(63, Check.KEY), 236);
        Check.same("count", x.total(Check.COUNT), 60);
    }

    /** The operation on as many keys as are said; a first object tells how many steps it takes. */
    private static SplitStore endsAtPlace7(String what, int keys, int operation, int key) {
        SplitStore first = Check.storeOfFours(keys);
        Check.begin(what, first, 1, operation, key, 9);
        int steps = first.run(1, 1000);
        SplitStore x = Check.storeOfFours(keys);
        Check.begin(what, x, 1, operation, key, 9);
        x.run(1, steps - 1);
        Check.same(what + ": place", x.process(1, Check.PLACE), 7);
        Check.same(what + ": result before", x.result(1), Check.NONE);
        Check.steps(what, x, 1, 0);
        Check.same(what + ": result", x.result(1), Check.FULL);
        Check.same(what + ": low", x.process(1, Check.LOW), 0);
        Check.same(what + ": high", x.process(1, Check.HIGH), 0);
        Check.same(what + ": own", x.process(1, Check.OWN), Check.NONE);
        return x;
    }

    private static void insertOfAKey() {
        SplitStore x = endsAtPlace7("insert", 60, Check.INSERT, 240);
        Check.same("count", x.total(Check.COUNT), 60);
        Check.whole("it is not there", x, 2, Check.FIND, 240, 0, Check.NONE);
    }

    private static void anyOperationThatMakesABucket() {
        for (int operation = Check.FIND; operation <= Check.REMOVE; operation++) {
            String what = "operation " + operation;
            SplitStore x = endsAtPlace7(what, 60, operation, Check.keyOf(1));
            Check.same(what + ": no bucket", x.bucket(1), Check.NONE);
            Check.same(what + ": count", x.total(Check.COUNT), 60);
            Check.whole(what + ": again", x, 1, operation, Check.keyOf(1), 0, Check.FULL);
        }
    }

    private static void whatNeedsNoNodeGoesOn() {
        SplitStore x = Check.storeOfFours(60);
        Check.whole("insert of a key that is there", x, 1, Check.INSERT, 8, 1, 0);
        Check.whole("find of a key that is there", x, 2, Check.FIND, 8, 1, 2);
        Check.whole("find of a key that is not", x, 2, Check.FIND, 240, 1, Check.NONE);
        Check.whole("remove of a key that is not", x, 2, Check.REMOVE, 240, 1, Check.NONE);
        Check.whole("remove of a key that is there", x, 2, Check.REMOVE, 8, 1, 2);
    }

    /** The last node becomes that of bucket 1 and stays so, when bucket 3 behind it finds none. */
    private static void fullBetweenTwoBuckets() {
        SplitStore x = endsAtPlace7("bucket 7", 59, Check.FIND, Check.keyOf(7));
        Check.same("bucket 1", x.bucket(1), 63);
        Check.same("bucket 3", x.bucket(3), Check.NONE);
        Check.same("bucket 7", x.bucket(7), Check.NONE);
        Check.same("free", x.total(Check.FREE), 0);
        Check.whole("bucket 1 is of use", x, 1, Check.FIND, Check.keyOf(1), 0, Check.NONE);
    }

    private static void fullBetweenBucketAndKey() {
        SplitStore x = endsAtPlace7("the first key of bucket 1", 59, Check.INSERT, Check.keyOf(1));
        Check.same("bucket 1", x.bucket(1), 63);
        Check.same("count", x.total(Check.COUNT), 59);
        Check.whole("it is not there", x, 1, Check.FIND, Check.keyOf(1), 0, Check.NONE);
    }

    private static void ownNodesOfOthersAreTaken() {
        SplitStore x = Check.storeOfFours(58);
        Check.begin("late", x, 1, Check.INSERT, 232, 1);
        while (x.process(1, Check.PLACE) != 8) {
            x.step(1);
        }
        Check.whole("early", x, 0, Check.INSERT, 232, 2, 1);
        Check.same("none is free", x.total(Check.FREE), 0);
        Check.whole("without a free one", x, 2, Check.INSERT, 236, 3, Check.FULL);
        x.run(1, 1000);
        Check.same("late", x.result(1), 0);
        Check.same("its own node is free", x.total(Check.FREE), 1);
        Check.whole("with a free one", x, 2, Check.INSERT, 236, 3, 1);
        Check.same("that one", x.node(62, Check.KEY), 236);
    }

    private static void retiredNodesAreTaken() {
        SplitStore x = Check.storeOfFours(60);
        Check.whole("remove", x, 0, Check.REMOVE, 8, 0, 2);
        Check.same("retired", x.total(Check.RETIRED), 1);
        Check.whole("a retired node is not free", x, 1, Check.INSERT, 240, 1, Check.FULL);
        Check.whole("remove", x, 0, Check.REMOVE, 12, 0, 3);
        Check.same("free", x.total(Check.FREE), 1);
        Check.whole("now there is a free one", x, 1, Check.INSERT, 240, 1, 1);
    }
}
