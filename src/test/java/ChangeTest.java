/** The word CHANGE at each place that has it: it fails where another node is there, and where a mark is. */
final class ChangeTest {
    private static final int K10 = Check.keyAt(10), K20 = Check.keyAt(20), K30 = Check.keyAt(30);

    public static void main(String[] args) {
        placeSixFailsByANode();
        placeSixFailsByAMark();
        placeSixWithNoneBehind();
        placeEightFailsByANode();
        placeEightFailsByAMark();
        placeEightFromNone();
        placeTenFailsByANode();
        placeTenFailsByNone();
        placeTenFailsByAMark();
        placeTenFromNone();
        placeElevenFailsByANode();
        placeElevenFailsByAMark();
        Check.finish();
    }

    private static void insertTo8(SplitStore x, int process, int key, int... places) {
        Check.begin("insert", x, process, Check.INSERT, key, 5);
        Check.steps("insert", x, process, places);
        Check.same("insert", x.process(process, Check.PLACE), 8);
    }

    private static void removeTo11(SplitStore x, int process, int key, int... places) {
        Check.begin("remove", x, process, Check.REMOVE, key, 0);
        Check.steps("remove", x, process, places);
        Check.same("remove", x.process(process, Check.PLACE), 11);
    }

    private static void nothingRetired(SplitStore x, int process) {
        Check.same("retired", x.total(Check.RETIRED), 0);
        Check.same("era", x.total(Check.ERA), 1);
        Check.same("row", x.process(process, Check.ROW), 0);
    }

    private static void placeSixFailsByANode() {
        SplitStore x = Check.storeOf(20, 30);
        insertTo8(x, 2, K10, 2, 3, 4, 5, 7, 8);
        removeTo11(x, 0, K20, 2, 3, 4, 5, 10, 11);
        Check.begin("find", x, 1, Check.FIND, K30, 0);
        Check.steps("find", x, 1, 2, 3, 4, 5, 6);
        Check.steps("the insert comes between", x, 2, 13);
        Check.steps("place 6 fails", x, 1, 3);
        Check.same("prev leads to what came", x.node(0, Check.NEXT), 3);
        Check.same("and that to the marked one", x.node(3, Check.NEXT), 1);
        nothingRetired(x, 1);
    }

    private static void placeSixFailsByAMark() {
        SplitStore x = Check.storeOf(10, 20, 30);
        removeTo11(x, 0, K20, 2, 3, 4, 5, 4, 5, 10, 11);
        Check.begin("find", x, 1, Check.FIND, K30, 0);
        Check.steps("find", x, 1, 2, 3, 4, 5, 4, 5, 6);
        removeTo11(x, 2, K10, 2, 3, 4, 5, 10, 11);
        Check.steps("place 6 fails", x, 1, 3);
        Check.same("prev leads to cur still", x.node(1, Check.NEXT), 2);
        Check.same("with its mark", x.node(1, Check.MARK), 1);
        nothingRetired(x, 1);
    }

    /** The remover comes to place 12 with an empty row, for another has taken out its node. */
    private static void placeSixWithNoneBehind() {
        SplitStore x = Check.storeOf(10);
        removeTo11(x, 0, K10, 2, 3, 4, 5, 10, 11);
        Check.begin("find", x, 1, Check.FIND, K20, 0);
        Check.steps("find", x, 1, 2, 3, 4, 5, 6, 4);
        Check.same("cur", x.process(1, Check.CUR), Check.NONE);
        Check.same("prev leads to none", x.node(0, Check.NEXT), Check.NONE);
        Check.same("retired", x.node(1, Check.STATE), 2);
        Check.steps("find", x, 1, 0);
        Check.same("nothing found", x.result(1), Check.NONE);
        Check.steps("remove", x, 0, 3, 3, 4, 12);
        Check.same("its row is empty", x.process(0, Check.ROW), 0);
        Check.steps("remove", x, 0, 0);
        Check.same("its value", x.result(0), 10);
        Check.same("retired still, in the other's row", x.node(1, Check.STATE), 2);
    }

    private static void placeEightFailsByANode() {
        SplitStore x = Check.storeOf(30);
        insertTo8(x, 1, K20, 2, 3, 4, 5, 7, 8);
        Check.whole("insert", x, 0, Check.INSERT, K10, 10, 1);
        Check.steps("place 8 fails", x, 1, 3);
        Check.same("its own node still", x.process(1, Check.OWN), 2);
        Check.same("prev leads to what came", x.node(0, Check.NEXT), 3);
        Check.same("count", x.total(Check.COUNT), 2);
    }

    private static void placeEightFailsByAMark() {
        SplitStore x = Check.storeOf(10);
        insertTo8(x, 1, K20, 2, 3, 4, 5, 4, 7, 8);
        removeTo11(x, 0, K10, 2, 3, 4, 5, 10, 11);
        Check.steps("place 8 fails", x, 1, 3);
        Check.same("prev leads to none still", x.node(1, Check.NEXT), Check.NONE);
        Check.same("its own node still", x.process(1, Check.OWN), 2);
        Check.same("count", x.total(Check.COUNT), 0);
        Check.steps("it takes the marked one out", x, 1, 4, 5, 6, 4, 7, 8, 13, 0);
        Check.same("inserted", x.result(1), 1);
        Check.same("behind bucket 0", x.node(0, Check.NEXT), 2);
    }

    private static void placeEightFromNone() {
        SplitStore x = Check.storeOf(10);
        insertTo8(x, 1, K20, 2, 3, 4, 5, 4, 7, 8);
        insertTo8(x, 2, K30, 2, 3, 4, 5, 4, 7, 8);
        Check.steps("done", x, 1, 13);
        Check.same("prev leads to it", x.node(1, Check.NEXT), 2);
        Check.same("the last", x.node(2, Check.NEXT), Check.NONE);
        Check.steps("fails", x, 2, 3);
        Check.same("prev leads to the first still", x.node(1, Check.NEXT), 2);
        Check.steps("behind it then", x, 2, 4, 5, 4, 5, 4, 7, 8, 13);
        Check.same("behind it then", x.node(2, Check.NEXT), 3);
    }

    private static void placeTenFailsByANode() {
        SplitStore x = Check.storeOf(10, 30);
        Check.begin("remove", x, 1, Check.REMOVE, K10, 0);
        Check.steps("remove", x, 1, 2, 3, 4, 5, 10);
        Check.whole("insert", x, 0, Check.INSERT, K20, 20, 1);
        Check.steps("place 10 fails", x, 1, 3);
        Check.same("next", x.node(1, Check.NEXT), 3);
        Check.same("no mark", x.node(1, Check.MARK), 0);
        Check.same("count", x.total(Check.COUNT), 3);
    }

    private static void placeTenFailsByNone() {
        SplitStore x = Check.storeOf(10, 20);
        Check.begin("remove", x, 1, Check.REMOVE, K10, 0);
        Check.steps("remove", x, 1, 2, 3, 4, 5, 10);
        Check.whole("remove the one behind", x, 0, Check.REMOVE, K20, 0, 20);
        Check.steps("place 10 fails", x, 1, 3);
        Check.same("no mark", x.node(1, Check.MARK), 0);
        Check.steps("then it is done", x, 1, 3, 4, 5, 10, 11, 12, 0);
        Check.same("its value", x.result(1), 10);
    }

    private static void placeTenFailsByAMark() {
        SplitStore x = Check.storeOf(10, 20);
        Check.begin("remove", x, 1, Check.REMOVE, K10, 0);
        Check.steps("remove", x, 1, 2, 3, 4, 5, 10);
        removeTo11(x, 2, K10, 2, 3, 4, 5, 10, 11);
        Check.steps("place 10 fails", x, 1, 3);
        Check.same("count is less by one alone", x.total(Check.COUNT), 1);
        Check.same("next", x.node(1, Check.NEXT), 2);
    }

    private static void placeTenFromNone() {
        SplitStore x = Check.storeOf(10);
        removeTo11(x, 1, K10, 2, 3, 4, 5, 10, 11);
        Check.same("next", x.node(1, Check.NEXT), Check.NONE);
        Check.same("mark", x.node(1, Check.MARK), 1);
        Check.same("count", x.total(Check.COUNT), 0);
        Check.steps("place 11", x, 1, 12);
        Check.same("prev leads to none", x.node(0, Check.NEXT), Check.NONE);
        Check.same("without mark", x.node(0, Check.MARK), 0);
    }

    private static void placeElevenFailsByANode() {
        SplitStore x = Check.storeOf(20);
        insertTo8(x, 2, K10, 2, 3, 4, 5, 7, 8);
        removeTo11(x, 1, K20, 2, 3, 4, 5, 10, 11);
        Check.steps("the insert comes between", x, 2, 13);
        Check.steps("place 11 fails", x, 1, 3);
        Check.same("prev leads to what came", x.node(0, Check.NEXT), 2);
        nothingRetired(x, 1);
    }

    private static void placeElevenFailsByAMark() {
        SplitStore x = Check.storeOf(10, 20);
        removeTo11(x, 1, K20, 2, 3, 4, 5, 4, 5, 10, 11);
        removeTo11(x, 0, K10, 2, 3, 4, 5, 10, 11);
        Check.steps("place 11 fails", x, 1, 3);
        Check.same("prev leads to cur still", x.node(1, Check.NEXT), 2);
        nothingRetired(x, 1);
        Check.steps("it takes both out", x, 1, 4, 5, 6, 4, 4, 5, 6, 4, 12);
        Check.same("row", x.process(1, Check.ROW), 2);
        Check.same("era", x.total(Check.ERA), 3);
        Check.steps("end", x, 1, 0);
        Check.same("the value of its own key", x.result(1), 20);
        Check.steps("the other is to clean", x, 0, 3, 3, 4, 12, 0);
        Check.same("the value of its own key", x.result(0), 10);
    }
}
