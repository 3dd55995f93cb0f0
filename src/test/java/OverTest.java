/** The word OVER: where each kind of search goes when it found something, came to a higher order, or to the end. */
final class OverTest {
    private static final int K10 = Check.keyAt(10), K20 = Check.keyAt(20), K30 = Check.keyAt(30);

    public static void main(String[] args) {
        findOfEachKind();
        insertOfEachKind();
        insertThatIsTooLate();
        removeOfEachKind();
        bucketAtTheEnd();
        bucketBeforeAHigherOrder();
        bucketThatIsFound();
        bucketThatAnotherMadeOnTheWay();
        cleanFindsItsKeyAgain();
        cleanAtAHigherOrder();
        cleanAtTheEnd();
        Check.finish();
    }

    private static void ends(SplitStore x, int operation, int key, int result, int... places) {
        String what = "operation " + operation + " of key " + key;
        Check.begin(what, x, 1, operation, key, 77);
        Check.steps(what, x, 1, places);
        Check.same(what + ": result", x.result(1), result);
        Check.same(what + ": own", x.process(1, Check.OWN), Check.NONE);
    }

    private static void findOfEachKind() {
        ends(Check.storeOf(), Check.FIND, K20, Check.NONE, 2, 3, 4, 0);
        ends(Check.storeOf(20), Check.FIND, K20, 20, 2, 3, 4, 5, 0);
        ends(Check.storeOf(20), Check.FIND, K10, Check.NONE, 2, 3, 4, 5, 0);
        ends(Check.storeOf(20), Check.FIND, K30, Check.NONE, 2, 3, 4, 5, 4, 0);
        ends(Check.storeOf(20), Check.FIND, Check.keyAt(19), Check.NONE, 2, 3, 4, 5, 0);
        ends(Check.storeOf(20), Check.FIND, Check.keyAt(21), Check.NONE, 2, 3, 4, 5, 4, 0);
    }

    private static void insertOfEachKind() {
        ends(Check.storeOf(), Check.INSERT, K20, 1, 2, 3, 4, 7, 8, 13, 0);
        ends(Check.storeOf(20), Check.INSERT, K20, 0, 2, 3, 4, 5, 0);
        ends(Check.storeOf(20), Check.INSERT, K10, 1, 2, 3, 4, 5, 7, 8, 13, 0);
        ends(Check.storeOf(20), Check.INSERT, K30, 1, 2, 3, 4, 5, 4, 7, 8, 13, 0);
    }

    /** An insert that finds its key ends with 0 and changes neither the value nor the count; its own node is free. */
    private static void insertThatIsTooLate() {
        SplitStore x = Check.storeOf(10);
        Check.begin("late", x, 1, Check.INSERT, K20, 21);
        Check.steps("late", x, 1, 2, 3, 4, 5, 4, 7, 8);
        Check.same("free", x.total(Check.FREE), 61);
        Check.whole("early", x, 0, Check.INSERT, K20, 20, 1);
        Check.same("free", x.total(Check.FREE), 60);
        Check.steps("late", x, 1, 3, 4, 5, 4, 5, 0);
        Check.same("result", x.result(1), 0);
        Check.same("free", x.total(Check.FREE), 61);
        Check.same("count", x.total(Check.COUNT), 2);
        Check.whole("find", x, 2, Check.FIND, K20, 0, 20);
    }

    private static void removeOfEachKind() {
        ends(Check.storeOf(), Check.REMOVE, K20, Check.NONE, 2, 3, 4, 0);
        ends(Check.storeOf(20), Check.REMOVE, K20, 20, 2, 3, 4, 5, 10, 11, 12, 0);
        ends(Check.storeOf(20), Check.REMOVE, K10, Check.NONE, 2, 3, 4, 5, 0);
        ends(Check.storeOf(20), Check.REMOVE, K30, Check.NONE, 2, 3, 4, 5, 4, 0);
    }

    private static void bucketAtTheEnd() {
        SplitStore x = Check.storeOf(10, 20, 30);
        Check.begin("bucket 1", x, 1, Check.FIND, Check.keyOf(1), 0);
        Check.steps("bucket 1", x, 1, 2, 2, 3, 4, 5, 4, 5, 4, 5, 4, 7, 8, 9, 3, 4, 0);
        Check.same("the last", x.node(x.bucket(1), Check.NEXT), Check.NONE);
        Check.same("behind the highest key", x.node(3, Check.NEXT), x.bucket(1));
        Check.same("no key was inserted", x.total(Check.COUNT), 3);
        Check.same("nothing found", x.result(1), Check.NONE);
    }

    private static void bucketBeforeAHigherOrder() {
        SplitStore x = Check.storeOf(10, 20, 200);
        Check.begin("bucket 1", x, 1, Check.REMOVE, Check.keyOf(1), 0);
        Check.steps("bucket 1", x, 1, 2, 2, 3, 4, 5, 4, 5, 4, 5, 7, 8, 9, 3, 4, 5, 0);
        Check.same("before the higher key", x.node(x.bucket(1), Check.NEXT), 3);
        Check.same("behind the lower one", x.node(2, Check.NEXT), x.bucket(1));
        Check.same("nothing found", x.result(1), Check.NONE);
    }

    /** The node of bucket 1 is in the list, but not yet the bucket's: another finds it and makes it that. */
    private static void bucketThatIsFound() {
        SplitStore x = Check.storeOf(10, 20, 30);
        Check.begin("the first", x, 1, Check.FIND, Check.keyOf(1), 0);
        Check.steps("the first", x, 1, 2, 2, 3, 4, 5, 4, 5, 4, 5, 4, 7, 8, 9);
        Check.begin("the second", x, 2, Check.INSERT, Check.keyOf(1), 5);
        Check.steps("the second", x, 2, 2, 2, 3, 4, 5, 4, 5, 4, 5, 4, 5, 9);
        Check.same("no bucket yet", x.bucket(1), Check.NONE);
        Check.same("no own node", x.process(2, Check.OWN), Check.NONE);
        Check.steps("the second", x, 2, 3);
        Check.same("bucket 1", x.bucket(1), 4);
        Check.steps("the second", x, 2, 4, 7, 8, 13, 0);
        Check.steps("the first finds the bucket's node there", x, 1, 3);
        Check.same("bucket 1 stays", x.bucket(1), 4);
        Check.steps("the first", x, 1, 4, 5, 0);
        Check.same("it finds what the second inserted", x.result(1), 5);
    }

    /** Bucket 3 has no node and neither had its parent 1, until another made one: the stack has bucket 3 alone. */
    private static void bucketThatAnotherMadeOnTheWay() {
        SplitStore x = Check.storeWith(5);
        Check.begin("three", x, 1, Check.FIND, Check.keyOf(3), 0);
        Check.steps("three", x, 1, 2, 2);
        Check.same("stack", x.process(1, Check.STACK), 1);
        Check.whole("one", x, 0, Check.FIND, Check.keyOf(1), 0, Check.NONE);
        Check.steps("three", x, 1, 3);
        Check.same("stack", x.process(1, Check.STACK), 1);
        Check.steps("three", x, 1, 4);
        Check.same("it goes on from bucket 1", x.process(1, Check.PREV), x.bucket(1));
        Check.steps("three", x, 1, 7, 8, 9, 3, 4, 0);
        Check.same("behind bucket 1", x.node(x.bucket(1), Check.NEXT), x.bucket(3));
    }

    /** A remove at place 11, whose node another process took out meanwhile. */
    private static SplitStore toClean(String what, int... turns) {
        SplitStore x = Check.storeOf(turns);
        Check.begin(what, x, 1, Check.REMOVE, K20, 0);
        x.run(1, turns[0] == 20 ? 6 : 8);
        Check.same(what + ": place", x.process(1, Check.PLACE), 11);
        Check.whole(what + ": taken out", x, 0, Check.FIND, K20, 0, Check.NONE);
        return x;
    }

    private static void cleanFindsItsKeyAgain() {
        SplitStore x = toClean("found again", 20);
        Check.whole("insert", x, 0, Check.INSERT, K20, 21, 1);
        Check.steps("found again", x, 1, 3, 3, 4, 5, 12, 0);
        Check.same("the value that it removed", x.result(1), 20);
        Check.same("what came later stays", x.total(Check.COUNT), 1);
        Check.whole("find", x, 0, Check.FIND, K20, 0, 21);
    }

    private static void cleanAtAHigherOrder() {
        SplitStore x = toClean("a higher order", 20, 30);
        Check.steps("a higher order", x, 1, 3, 3, 4, 5, 12, 0);
        Check.same("the value that it removed", x.result(1), 20);
        Check.same("count", x.total(Check.COUNT), 1);
    }

    private static void cleanAtTheEnd() {
        SplitStore x = toClean("the end", 10, 20);
        Check.steps("the end", x, 1, 3, 3, 4, 5, 4, 12, 0);
        Check.same("the value that it removed", x.result(1), 20);
        Check.same("count", x.total(Check.COUNT), 1);
    }
}
