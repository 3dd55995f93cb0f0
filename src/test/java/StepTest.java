/** Promise 3: what a step does at each place; the places behind the steps are written out. */
final class StepTest {
    private static final int K10 = Check.keyAt(10), K20 = Check.keyAt(20), K30 = Check.keyAt(30), K40 = Check.keyAt(40);

    public static void main(String[] args) {
        noStep();
        place1();
        place2();
        place3();
        place4();
        place5();
        place5ReadsTheMarkOfTheLoad();
        place6();
        place7();
        place8();
        place9();
        place10();
        place11();
        place12();
        place12WithOtherProcesses();
        place12OfARow();
        place13();
        place13OfThree();
        place13AtTheLargestSize();
        Check.finish();
    }

    private static void noStep() {
        SplitStore x = new SplitStore();
        Check.same("step of an idle process", x.step(0), 0);
        int[] wrong = {-1, 4, Integer.MIN_VALUE, Integer.MAX_VALUE};
        for (int p : wrong) {
            Check.same("step of process " + p, x.step(p), Check.NONE);
        }
    }

    private static void place1() {
        SplitStore x = Check.storeOf(10);
        Check.whole("remove", x, 0, Check.REMOVE, K10, 0, 10);
        Check.begin("place 1", x, 1, Check.FIND, K10, 0);
        Check.steps("place 1", x, 1, 2);
        Check.same("low", x.process(1, Check.LOW), 2);
        Check.same("high", x.process(1, Check.HIGH), 2);

        SplitStore y = Check.storeOf(10, 20);
        Check.begin("the size when it steps counts", y, 1, Check.FIND, Check.keyOf(1), 0);
        Check.whole("third key", y, 0, Check.INSERT, K30, 30, 1);
        Check.steps("the size when it steps counts", y, 1, 2, 2, 3);
        Check.same("stack", y.process(1, Check.STACK), 1);

        SplitStore z = Check.storeOf(10, 20);
        Check.begin("a later size does not count", z, 1, Check.FIND, Check.keyOf(1), 0);
        Check.steps("a later size does not count", z, 1, 2);
        Check.whole("third key", z, 0, Check.INSERT, K30, 30, 1);
        Check.same("size", z.total(Check.SIZE), 2);
        Check.steps("a later size does not count", z, 1, 3);
        Check.same("stack", z.process(1, Check.STACK), 0);
    }

    private static void place2() {
        SplitStore x = Check.storeWith(17);
        Check.same("size", x.total(Check.SIZE), 16);
        Check.begin("fifteen", x, 1, Check.FIND, Check.keyOf(15), 0);
        Check.steps("fifteen", x, 1, 2, 2, 2, 2, 2, 3);
        Check.same("stack of 15, 7, 3, 1", x.process(1, Check.STACK), 4);
        x.run(1, 1000);
        Check.same("stack behind the end", x.process(1, Check.STACK), 0);
        int[] buckets = {1, 3, 7, 15};
        int[] orders = {256, 384, 448, 480};
        for (int i = 0; i < 4; i++) {
            Check.same("order of bucket " + buckets[i], x.node(x.bucket(buckets[i]), Check.ORDER), orders[i]);
        }
        Check.begin("now it has a node", x, 1, Check.FIND, Check.keyOf(15), 0);
        Check.steps("now it has a node", x, 1, 2, 3);
        Check.begin("ten has parent two", x, 2, Check.FIND, Check.keyOf(10), 0);
        Check.steps("ten has parent two", x, 2, 2, 2, 2, 3);
        x.run(2, 1000);
        Check.holds("bucket 10", x.bucket(10) != Check.NONE);
        Check.holds("bucket 2", x.bucket(2) != Check.NONE);
        Check.same("bucket 5", x.bucket(5), Check.NONE);
        Check.same("bucket 8", x.bucket(8), Check.NONE);
    }

    private static void place3() {
        SplitStore x = Check.storeOf(10, 20);
        Check.begin("place 3", x, 1, Check.FIND, K20, 0);
        Check.steps("place 3", x, 1, 2, 3);
        Check.whole("remove", x, 0, Check.REMOVE, K10, 0, 10);
        Check.steps("the era went on", x, 1, 3);
        Check.same("low stays", x.process(1, Check.LOW), 1);
        Check.same("high goes along", x.process(1, Check.HIGH), 2);
        Check.same("nothing was read", x.process(1, Check.CUR), Check.NONE);
        Check.steps("now it reads", x, 1, 4);
        Check.same("prev", x.process(1, Check.PREV), 0);
        Check.same("cur", x.process(1, Check.CUR), 2);
        Check.same("nxt", x.process(1, Check.NXT), Check.NONE);
    }

    private static void place4() {
        SplitStore x = Check.storeOf(10, 20);
        Check.begin("place 4", x, 1, Check.FIND, K20, 0);
        Check.steps("place 4", x, 1, 2, 3, 4);
        Check.whole("remove", x, 0, Check.REMOVE, K20, 0, 20);
        Check.steps("the era went on", x, 1, 4);
        Check.same("low stays", x.process(1, Check.LOW), 1);
        Check.same("high goes along", x.process(1, Check.HIGH), 2);
        Check.steps("to the end", x, 1, 5, 4);
        Check.same("cur", x.process(1, Check.CUR), Check.NONE);
        Check.whole("remove", x, 0, Check.REMOVE, K10, 0, 10);
        Check.steps("none is no load, whatever the era", x, 1, 0);
        Check.same("not found", x.result(1), Check.NONE);
    }

    private static void place5() {
        SplitStore x = Check.storeOf(20);
        Check.begin("prev leads elsewhere", x, 1, Check.FIND, K20, 0);
        Check.steps("prev leads elsewhere", x, 1, 2, 3, 4, 5);
        Check.whole("insert before", x, 0, Check.INSERT, K10, 10, 1);
        Check.steps("prev leads elsewhere", x, 1, 3, 4, 5, 4, 5, 0);
        Check.same("found", x.result(1), 20);

        SplitStore y = Check.storeOf(10, 20);
        Check.begin("prev has a mark", y, 1, Check.FIND, K20, 0);
        Check.steps("prev has a mark", y, 1, 2, 3, 4, 5, 4, 5);
        Check.same("prev", y.process(1, Check.PREV), 1);
        Check.same("cur", y.process(1, Check.CUR), 2);
        Check.begin("the marker", y, 0, Check.REMOVE, K10, 0);
        Check.steps("the marker", y, 0, 2, 3, 4, 5, 10, 11);
        Check.steps("prev has a mark", y, 1, 3, 4, 5, 6);

        SplitStore z = Check.storeOf(20);
        Check.begin("above the wanted one", z, 1, Check.FIND, K10, 0);
        Check.steps("above the wanted one", z, 1, 2, 3, 4, 5, 0);
        Check.same("not found", z.result(1), Check.NONE);
        Check.begin("below the wanted one", z, 1, Check.FIND, K30, 0);
        Check.steps("below the wanted one", z, 1, 2, 3, 4, 5, 4, 0);
        Check.same("not found", z.result(1), Check.NONE);
    }

    private static void place5ReadsTheMarkOfTheLoad() {
        SplitStore x = Check.storeOf(20);
        Check.begin("loaded before the mark", x, 1, Check.FIND, K20, 0);
        Check.steps("loaded before the mark", x, 1, 2, 3, 4, 5);
        Check.begin("the marker", x, 0, Check.REMOVE, K20, 0);
        Check.steps("the marker", x, 0, 2, 3, 4, 5, 10, 11);
        Check.steps("loaded before the mark", x, 1, 0);
        Check.same("it was still there then", x.result(1), 20);
    }

    private static void place6() {
        SplitStore x = Check.storeOf(10, 20);
        Check.begin("the marker", x, 0, Check.REMOVE, K10, 0);
        Check.steps("the marker", x, 0, 2, 3, 4, 5, 10, 11);
        Check.begin("the helper", x, 1, Check.FIND, K20, 0);
        Check.steps("the helper", x, 1, 2, 3, 4, 5, 6);
        Check.begin("the late helper", x, 2, Check.FIND, K20, 0);
        Check.steps("the late helper", x, 2, 2, 3, 4, 5, 6);
        Check.same("still there", x.node(1, Check.STATE), 1);
        Check.steps("the helper", x, 1, 4);
        Check.same("retired", x.node(1, Check.STATE), 2);
        Check.same("died", x.node(1, Check.DIED), 1);
        Check.same("mark", x.node(1, Check.MARK), 1);
        Check.same("era", x.total(Check.ERA), 2);
        Check.same("prev leads on", x.node(0, Check.NEXT), 2);
        Check.same("row of the helper", x.process(1, Check.ROW), 1);
        Check.same("prev stays", x.process(1, Check.PREV), 0);
        Check.same("cur goes on", x.process(1, Check.CUR), 2);
        Check.steps("the helper", x, 1, 4, 5, 0);
        Check.same("found", x.result(1), 20);
        Check.steps("the late helper fails", x, 2, 3, 3, 4, 5, 0);
        Check.same("row of the late helper", x.process(2, Check.ROW), 0);
        Check.same("the row stays while idle", x.process(1, Check.ROW), 1);
    }

    private static void place7() {
        SplitStore x = Check.storeOf(10, 30);
        Check.begin("place 7", x, 1, Check.INSERT, K20, 777);
        Check.steps("place 7", x, 1, 2, 3, 4, 5, 4, 5, 7);
        Check.same("no own node yet", x.process(1, Check.OWN), Check.NONE);
        Check.steps("place 7", x, 1, 8);
        Check.same("the lowest free one", x.process(1, Check.OWN), 3);
        int[] due = {1, 41, 2, 0, K20, 777, 1, 0};
        for (int what = 0; what < 8; what++) {
            Check.same("own node, " + what, x.node(3, what), due[what]);
        }
        Check.same("no one leads to it yet", x.node(1, Check.NEXT), 2);
        Check.same("count", x.total(Check.COUNT), 2);

        SplitStore y = Check.storeOf(30);
        Check.begin("the own node is kept", y, 1, Check.INSERT, K20, 777);
        Check.steps("the own node is kept", y, 1, 2, 3, 4, 5, 7, 8);
        Check.whole("insert", y, 0, Check.INSERT, K10, 10, 1);
        Check.whole("remove", y, 0, Check.REMOVE, K30, 0, 30);
        Check.whole("insert", y, 0, Check.INSERT, K40, 40, 1);
        Check.steps("the own node is kept", y, 1, 3, 3, 4, 5, 4, 5, 7, 8);
        Check.same("the same own node", y.process(1, Check.OWN), 2);
        Check.same("born as at first", y.node(2, Check.BORN), 1);
        Check.same("it leads to the new cur", y.node(2, Check.NEXT), 4);
        Check.steps("the own node is kept", y, 1, 13, 0);
        Check.same("inserted", y.result(1), 1);
    }

    private static void place8() {
        SplitStore x = Check.storeOf();
        Check.begin("the later one", x, 1, Check.INSERT, K20, 21);
        Check.steps("the later one", x, 1, 2, 3, 4, 7, 8);
        Check.begin("the earlier one", x, 0, Check.INSERT, K20, 20);
        Check.steps("the earlier one", x, 0, 2, 3, 4, 7, 8, 13);
        Check.same("the own node is no more its own", x.process(0, Check.OWN), Check.NONE);
        Check.same("node 0 leads to it", x.node(0, Check.NEXT), 2);
        Check.same("count", x.total(Check.COUNT), 1);
        Check.steps("the earlier one", x, 0, 0);
        Check.steps("the later one fails", x, 1, 3);
        Check.same("the own node is its own still", x.process(1, Check.OWN), 1);
        Check.steps("the later one finds the key", x, 1, 4, 5, 0);
        Check.same("result", x.result(1), 0);
        Check.same("the own node is free", x.node(1, Check.STATE), 0);
        Check.same("count", x.total(Check.COUNT), 1);
        Check.whole("find", x, 2, Check.FIND, K20, 0, 20);
    }

    private static void place9() {
        SplitStore x = Check.storeOf(10, 20, 30);
        int odd = Check.keyOf(1);
        int[] toLink = {2, 2, 3, 4, 5, 4, 5, 4, 5, 4, 7, 8};
        Check.begin("the first of a bucket", x, 1, Check.INSERT, odd, 1);
        Check.steps("the first of a bucket", x, 1, toLink);
        Check.begin("the second", x, 2, Check.FIND, odd, 0);
        Check.steps("the second", x, 2, toLink);
        Check.steps("the first of a bucket", x, 1, 9);
        Check.same("not a bucket yet", x.bucket(1), Check.NONE);
        Check.same("a bucket's node has no key", x.node(4, Check.KEY), Check.NONE);
        Check.same("a bucket's node has value 0", x.node(4, Check.VALUE), 0);
        Check.same("a bucket's order", x.node(4, Check.ORDER), 256);
        Check.same("a bucket is no key", x.total(Check.COUNT), 3);
        Check.steps("the second fails, then finds it", x, 2, 3, 4, 5, 4, 5, 4, 5, 4, 5, 9);
        Check.same("own node still", x.process(2, Check.OWN), 5);
        Check.same("stack still", x.process(2, Check.STACK), 1);
        Check.steps("the second", x, 2, 3);
        Check.same("bucket 1", x.bucket(1), 4);
        Check.same("its own node is free", x.node(5, Check.STATE), 0);
        Check.same("no own node", x.process(2, Check.OWN), Check.NONE);
        Check.same("stack", x.process(2, Check.STACK), 0);
        Check.steps("the first of a bucket", x, 1, 3);
        Check.same("bucket 1 stays", x.bucket(1), 4);
        Check.steps("the second", x, 2, 4);
        Check.same("it goes on from the bucket", x.process(2, Check.PREV), 4);
        Check.steps("the second", x, 2, 0);
        Check.steps("the first of a bucket", x, 1, 4, 7, 8, 13, 0);
        Check.same("inserted", x.result(1), 1);
        Check.same("behind the bucket", x.node(4, Check.NEXT), 5);
    }

    private static void place10() {
        SplitStore x = Check.storeOf(10);
        Check.begin("a node came behind", x, 1, Check.REMOVE, K10, 0);
        Check.steps("a node came behind", x, 1, 2, 3, 4, 5, 10);
        Check.whole("insert", x, 0, Check.INSERT, K20, 20, 1);
        Check.steps("a node came behind", x, 1, 3);
        Check.same("no mark", x.node(1, Check.MARK), 0);
        Check.same("count", x.total(Check.COUNT), 2);
        Check.steps("a node came behind", x, 1, 4, 5, 10, 11);
        Check.same("mark", x.node(1, Check.MARK), 1);
        Check.same("next stays", x.node(1, Check.NEXT), 2);
        Check.same("count", x.total(Check.COUNT), 1);
        Check.same("there until it is taken out", x.node(1, Check.STATE), 1);
        Check.steps("a node came behind", x, 1, 12, 0);
        Check.same("its value", x.result(1), 10);

        SplitStore y = Check.storeOf(10);
        Check.begin("one of two", y, 1, Check.REMOVE, K10, 0);
        Check.steps("one of two", y, 1, 2, 3, 4, 5, 10);
        Check.begin("two of two", y, 2, Check.REMOVE, K10, 0);
        Check.steps("two of two", y, 2, 2, 3, 4, 5, 10);
        Check.steps("one of two", y, 1, 11);
        Check.steps("two of two", y, 2, 3, 4, 5, 6, 4, 0);
        Check.same("only one removes it", y.result(2), Check.NONE);
        Check.steps("one of two", y, 1, 3, 3, 4, 12, 0);
        Check.same("only one removes it", y.result(1), 10);
        Check.same("count", y.total(Check.COUNT), 0);
    }

    private static void place11() {
        SplitStore x = Check.storeOf(20);
        Check.begin("insert before", x, 2, Check.INSERT, K10, 10);
        Check.steps("insert before", x, 2, 2, 3, 4, 5, 7, 8);
        Check.begin("to clean", x, 1, Check.REMOVE, K20, 0);
        Check.steps("to clean", x, 1, 2, 3, 4, 5, 10, 11);
        Check.steps("insert before", x, 2, 13, 0);
        Check.steps("to clean", x, 1, 3);
        Check.same("not retired by place 11", x.total(Check.RETIRED), 0);
        Check.steps("to clean: its own search takes it out", x, 1, 4, 5, 4, 5, 6, 4, 12);
        Check.same("retired", x.node(1, Check.STATE), 2);
        Check.same("row", x.process(1, Check.ROW), 1);
        Check.steps("to clean", x, 1, 0);
        Check.same("its value", x.result(1), 20);
        Check.same("count", x.total(Check.COUNT), 1);

        Check.begin("the next remove is not to clean", x, 1, Check.REMOVE, K10, 0);
        Check.steps("the next remove is not to clean", x, 1, 2, 3, 4, 5, 10, 11, 12);
        Check.same("row", x.process(1, Check.ROW), 2);
        Check.steps("the next remove is not to clean", x, 1, 0);

        SplitStore y = Check.storeOf(20);
        Check.begin("the same key again", y, 1, Check.REMOVE, K20, 0);
        Check.steps("the same key again", y, 1, 2, 3, 4, 5, 10, 11);
        Check.whole("insert", y, 0, Check.INSERT, K20, 21, 1);
        Check.steps("to clean, it finds the key and leaves it", y, 1, 3, 3, 4, 5, 12, 0);
        Check.same("its value", y.result(1), 20);
        Check.whole("find", y, 2, Check.FIND, K20, 0, 21);
    }

    private static void place12() {
        SplitStore x = Check.storeOf(10, 20, 30);
        Check.whole("remove", x, 0, Check.REMOVE, K10, 0, 10);
        Check.same("its own eras hold it", x.node(1, Check.STATE), 2);
        Check.same("row", x.process(0, Check.ROW), 1);
        Check.whole("remove", x, 0, Check.REMOVE, K20, 0, 20);
        Check.same("the first is free", x.node(1, Check.STATE), 0);
        Check.same("the second is not", x.node(2, Check.STATE), 2);
        Check.same("row", x.process(0, Check.ROW), 1);
        Check.whole("a row is its own process's", x, 1, Check.REMOVE, K30, 0, 30);
        Check.same("the second is not free by another", x.node(2, Check.STATE), 2);
        Check.whole("remove nothing", x, 0, Check.REMOVE, K30, 0, Check.NONE);
        Check.same("a remove of nothing gives nothing back", x.process(0, Check.ROW), 1);
        Check.same("free", x.total(Check.FREE), 64 - 1 - 2);
        Check.same("retired", x.total(Check.RETIRED), 2);
    }

    /** Node 1 lives 1 .. 1 and node 2 lives 1 .. 2; another process waits with the eras low .. high. */
    private static void place12WithOtherProcesses() {
        SplitStore x = Check.storeOf(10, 20);
        Check.begin("at place 1 it has no eras", x, 3, Check.FIND, K10, 0);
        Check.whole("remove", x, 0, Check.REMOVE, K10, 0, 10);
        Check.whole("remove", x, 0, Check.REMOVE, K20, 0, 20);
        Check.same("at place 1 it holds nothing", x.node(1, Check.STATE), 0);

        SplitStore y = Check.storeOf(10, 20);
        Check.begin("low 1", y, 3, Check.FIND, K10, 0);
        Check.steps("low 1", y, 3, 2);
        Check.whole("remove", y, 0, Check.REMOVE, K10, 0, 10);
        Check.whole("remove", y, 0, Check.REMOVE, K20, 0, 20);
        Check.same("its low is died", y.node(1, Check.STATE), 2);
        Check.same("row", y.process(0, Check.ROW), 2);

        SplitStore z = Check.storeOf(10, 20);
        Check.whole("remove", z, 0, Check.REMOVE, K10, 0, 10);
        Check.begin("low 2", z, 3, Check.FIND, K10, 0);
        Check.steps("low 2", z, 3, 2);
        Check.whole("remove", z, 0, Check.REMOVE, K20, 0, 20);
        Check.same("its low is behind died", z.node(1, Check.STATE), 0);
        Check.same("its low is at died", z.node(2, Check.STATE), 2);
    }

    /** The waiting process has low and high 2; nodes that live 2 .. 2 and 1 .. 3 are held, one that lives 4 .. 4 is not. */
    private static void place12OfARow() {
        SplitStore x = Check.storeOf(10, 20);
        Check.whole("remove, era 1", x, 0, Check.REMOVE, K10, 0, 10);
        Check.begin("the waiting one", x, 3, Check.FIND, K10, 0);
        Check.steps("the waiting one", x, 3, 2);
        Check.whole("insert in era 2", x, 0, Check.INSERT, K30, 30, 1);
        Check.same("node 3 is born in era 2", x.node(3, Check.BORN), 2);
        Check.whole("remove, era 2", x, 0, Check.REMOVE, K30, 0, 30);
        Check.same("node 1 is free", x.node(1, Check.STATE), 0);
        Check.same("row 3", x.process(0, Check.ROW), 1);
        Check.whole("remove, era 3", x, 0, Check.REMOVE, K20, 0, 20);
        Check.same("row 3, 2", x.process(0, Check.ROW), 2);
        Check.whole("insert in era 4", x, 0, Check.INSERT, K40, 40, 1);
        Check.same("node 1 is born in era 4", x.node(1, Check.BORN), 4);
        Check.whole("remove, era 4", x, 0, Check.REMOVE, K40, 0, 40);
        Check.same("row 3, 2, 1", x.process(0, Check.ROW), 3);
        Check.whole("insert in era 5", x, 0, Check.INSERT, K10, 10, 1);
        Check.whole("remove, era 5", x, 0, Check.REMOVE, K10, 0, 10);
        Check.same("node 1 came after its high", x.node(1, Check.STATE), 0);
        Check.same("row 3, 2, 4", x.process(0, Check.ROW), 3);
        x.run(3, 1000);
        Check.whole("insert in era 6", x, 0, Check.INSERT, K10, 10, 1);
        Check.whole("remove, era 6", x, 0, Check.REMOVE, K10, 0, 10);
        Check.same("all but the last are free", x.process(0, Check.ROW), 1);
        Check.same("node 3", x.node(3, Check.STATE), 0);
        Check.same("node 2", x.node(2, Check.STATE), 0);
    }

    private static void place13() {
        SplitStore x = Check.storeOf(10, 20);
        Check.same("not at twice the size", x.total(Check.SIZE), 1);
        Check.begin("to three", x, 1, Check.INSERT, K30, 30);
        Check.begin("to four", x, 2, Check.INSERT, K40, 40);
        Check.steps("to three", x, 1, 2, 3, 4, 5, 4, 5, 4, 7, 8, 13);
        Check.steps("to four", x, 2, 2, 3, 4, 5, 4, 5, 4, 5, 4, 7, 8, 13);
        Check.same("not before place 13", x.total(Check.SIZE), 1);
        Check.steps("to three", x, 1, 0);
        Check.same("twice", x.total(Check.SIZE), 2);
        Check.steps("to four", x, 2, 0);
        Check.same("once alone", x.total(Check.SIZE), 2);

        SplitStore y = Check.storeOf(10, 20);
        Check.begin("the count then", y, 1, Check.INSERT, K30, 30);
        Check.steps("the count then", y, 1, 2, 3, 4, 5, 4, 5, 4, 7, 8, 13);
        Check.whole("remove", y, 0, Check.REMOVE, K10, 0, 10);
        Check.steps("the count then", y, 1, 0);
        Check.same("size", y.total(Check.SIZE), 1);
    }

    /** Five keys at size 1: each of the three goes on by one size, as far as there are too many keys for it. */
    private static void place13OfThree() {
        SplitStore x = Check.storeOf(10, 20);
        int[] sizes = {2, 4, 4};
        for (int p = 1; p < 4; p++) {
            Check.begin("to 13", x, p, Check.INSERT, Check.keyAt(20 + p), p);
            while (x.process(p, Check.PLACE) != 13) {
                x.step(p);
            }
        }
        Check.same("count", x.total(Check.COUNT), 5);
        Check.same("size", x.total(Check.SIZE), 1);
        for (int p = 1; p < 4; p++) {
            Check.steps("from 13", x, p, 0);
            Check.same("size behind " + p, x.total(Check.SIZE), sizes[p - 1]);
            Check.same("result", x.result(p), 1);
        }
    }

    private static void place13AtTheLargestSize() {
        SplitStore x = Check.storeOfFours(32);
        Check.same("size", x.total(Check.SIZE), 16);
        Check.whole("more than two keys a bucket", x, 1, Check.INSERT, 128, 1, 1);
        Check.same("count", x.total(Check.COUNT), 33);
        Check.same("size", x.total(Check.SIZE), 16);
    }
}
