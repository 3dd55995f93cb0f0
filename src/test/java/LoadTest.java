/** The word LOAD: a process reads no next in an era that is not its high one. */
final class LoadTest {
    private static final int K10 = Check.keyAt(10), K20 = Check.keyAt(20), K30 = Check.keyAt(30), K40 = Check.keyAt(40);

    public static void main(String[] args) {
        emptyListHasNothingToRead();
        placeThreeStaysAsOftenAsTheEraGoesOn();
        placeFourStaysAsOftenAsTheEraGoesOn();
        anEraThatIsTheHighOneIsRead();
        noOtherPlaceLooksAtTheEra();
        Check.finish();
    }

    private static void emptyListHasNothingToRead() {
        SplitStore x = new SplitStore();
        Check.begin("empty", x, 1, Check.FIND, K10, 0);
        Check.steps("empty", x, 1, 2, 3, 4);
        Check.same("prev", x.process(1, Check.PREV), 0);
        Check.same("cur", x.process(1, Check.CUR), Check.NONE);
        Check.steps("empty", x, 1, 0);
        Check.same("nothing found", x.result(1), Check.NONE);
    }

    private static void eras(SplitStore x, int low, int high) {
        Check.same("low", x.process(1, Check.LOW), low);
        Check.same("high", x.process(1, Check.HIGH), high);
    }

    private static void placeThreeStaysAsOftenAsTheEraGoesOn() {
        SplitStore x = Check.storeOf(10, 20, 30);
        Check.begin("place 3", x, 1, Check.FIND, K30, 0);
        Check.steps("place 3", x, 1, 2, 3);
        Check.whole("era 2", x, 0, Check.REMOVE, K10, 0, 10);
        eras(x, 1, 1);
        Check.steps("era 2", x, 1, 3);
        eras(x, 1, 2);
        Check.same("nothing read", x.process(1, Check.PREV), Check.NONE);
        Check.whole("era 3", x, 0, Check.REMOVE, K20, 0, 20);
        Check.steps("era 3", x, 1, 3);
        eras(x, 1, 3);
        Check.steps("read", x, 1, 4);
        eras(x, 1, 3);
        Check.same("cur", x.process(1, Check.CUR), 3);
    }

    private static void placeFourStaysAsOftenAsTheEraGoesOn() {
        SplitStore x = Check.storeOf(10, 20, 30);
        Check.begin("place 4", x, 1, Check.FIND, K30, 0);
        Check.steps("place 4", x, 1, 2, 3, 4);
        Check.whole("era 2", x, 0, Check.REMOVE, K20, 0, 20);
        Check.steps("era 2", x, 1, 4);
        eras(x, 1, 2);
        Check.same("nothing read", x.process(1, Check.NXT), Check.NONE);
        Check.whole("era 3", x, 0, Check.REMOVE, K30, 0, 30);
        Check.steps("era 3", x, 1, 4);
        eras(x, 1, 3);
        Check.whole("insert", x, 0, Check.INSERT, K40, 40, 1);
        Check.steps("read", x, 1, 5);
        Check.same("what is behind now", x.process(1, Check.NXT), x.node(1, Check.NEXT));
        Check.same("the key that came last", x.node(x.process(1, Check.NXT), Check.KEY), K40);
    }

    /** The era went on twice, but the one that is the high one now is all that counts. */
    private static void anEraThatIsTheHighOneIsRead() {
        SplitStore x = Check.storeOf(10, 20, 30);
        Check.begin("two eras at once", x, 1, Check.FIND, K30, 0);
        Check.steps("two eras at once", x, 1, 2, 3);
        Check.whole("era 2", x, 0, Check.REMOVE, K10, 0, 10);
        Check.whole("era 3", x, 0, Check.REMOVE, K20, 0, 20);
        Check.steps("one step for both", x, 1, 3, 4, 5, 0);
        Check.same("found", x.result(1), 30);
    }

    private static void noOtherPlaceLooksAtTheEra() {
        SplitStore x = Check.storeOf(10, 20, 30);
        Check.begin("an insert", x, 1, Check.INSERT, Check.keyAt(15), 15);
        Check.steps("an insert", x, 1, 2, 3, 4, 5, 4, 5);
        Check.whole("era 2", x, 0, Check.REMOVE, K30, 0, 30);
        Check.steps("place 5", x, 1, 7);
        Check.whole("insert", x, 0, Check.INSERT, K30, 31, 1);
        Check.whole("era 3", x, 0, Check.REMOVE, K30, 0, 31);
        Check.steps("places 7, 8 and 13", x, 1, 8, 13, 0);
        Check.same("inserted", x.result(1), 1);

        SplitStore y = Check.storeOf(10, 30);
        Check.begin("a remove", y, 1, Check.REMOVE, K10, 0);
        Check.steps("a remove", y, 1, 2, 3, 4, 5, 10);
        Check.whole("insert", y, 0, Check.INSERT, K40, 40, 1);
        Check.whole("era 2", y, 0, Check.REMOVE, K40, 0, 40);
        Check.steps("place 10", y, 1, 11);
        Check.same("high", y.process(1, Check.HIGH), 1);
        Check.whole("insert", y, 0, Check.INSERT, K40, 40, 1);
        Check.same("taken out by another", y.node(1, Check.STATE), 2);
        Check.steps("place 11", y, 1, 3);
    }
}
