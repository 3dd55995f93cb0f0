/** Place 12: a retired node is free when no process at work has an era in common with it; the edges of low .. high. */
final class EraTest {
    private static final int K10 = Check.keyAt(10), K20 = Check.keyAt(20), K30 = Check.keyAt(30), K40 = Check.keyAt(40);

    public static void main(String[] args) {
        lowIsDied();
        lowIsBehindDied();
        highIsBorn();
        highIsBeforeBorn();
        insideALife();
        aroundALife();
        itsOwnErasCount();
        aProcessAtPlaceOneHasNone();
        anIdleProcessHasNone();
        eachOfThreeOthersCounts();
        othersKeepTheirRows();
        Check.finish();
    }

    private static void state(SplitStore x, String what, int node, int born, int died, int state) {
        Check.same(what + ": born", x.node(node, Check.BORN), born);
        Check.same(what + ": died", x.node(node, Check.DIED), died);
        Check.same(what + ": state", x.node(node, Check.STATE), state);
    }

    private static void waits(SplitStore x, int process, int low, int high) {
        Check.same("low", x.process(process, Check.LOW), low);
        Check.same("high", x.process(process, Check.HIGH), high);
    }

    private static void begins(SplitStore x, int process) {
        Check.begin("it waits", x, process, Check.FIND, K40, 0);
        Check.steps("it waits", x, process, 2, 3);
    }

    private static void remove(SplitStore x, int turn) {
        Check.whole("remove", x, 0, Check.REMOVE, Check.keyAt(turn), 0, turn);
    }

    private static void insert(SplitStore x, int turn) {
        Check.whole("insert", x, 0, Check.INSERT, Check.keyAt(turn), turn, 1);
    }

    private static void lowIsDied() {
        SplitStore x = Check.storeOf(10, 20, 30);
        begins(x, 3);
        remove(x, 10);
        remove(x, 20);
        waits(x, 3, 1, 1);
        state(x, "low is died", 1, 1, 1, 2);
        Check.same("row", x.process(0, Check.ROW), 2);
    }

    private static void lowIsBehindDied() {
        SplitStore x = Check.storeOf(10, 20, 30);
        remove(x, 10);
        begins(x, 3);
        remove(x, 20);
        waits(x, 3, 2, 2);
        state(x, "low is behind died", 1, 1, 1, 0);
        state(x, "low is died", 2, 1, 2, 2);
        Check.same("row", x.process(0, Check.ROW), 1);
    }

    /** The waiting one tries to load in era 2, so that its high is 2. */
    private static void highIsBorn() {
        SplitStore x = Check.storeOf(10, 20);
        begins(x, 3);
        remove(x, 10);
        Check.steps("it tries to load", x, 3, 3);
        waits(x, 3, 1, 2);
        insert(x, 30);
        remove(x, 30);
        remove(x, 20);
        state(x, "high is born", 3, 2, 2, 2);
        Check.same("row", x.process(0, Check.ROW), 3);
    }

    private static void highIsBeforeBorn() {
        SplitStore x = Check.storeOf(10, 20);
        begins(x, 3);
        remove(x, 10);
        insert(x, 30);
        remove(x, 30);
        waits(x, 3, 1, 1);
        state(x, "its own eras hold it", 3, 2, 2, 2);
        remove(x, 20);
        state(x, "high is before born", 3, 2, 2, 0);
        state(x, "held, before it in the row", 1, 1, 1, 2);
        state(x, "held, behind it in the row", 2, 1, 3, 2);
        Check.same("row", x.process(0, Check.ROW), 2);
    }

    private static void insideALife() {
        SplitStore x = Check.storeOf(10, 20, 30);
        remove(x, 10);
        begins(x, 3);
        remove(x, 20);
        remove(x, 30);
        insert(x, 10);
        remove(x, 10);
        waits(x, 3, 2, 2);
        state(x, "inside", 3, 1, 3, 2);
    }

    private static void aroundALife() {
        SplitStore x = Check.storeOf(10, 20);
        begins(x, 3);
        remove(x, 10);
        insert(x, 30);
        remove(x, 30);
        Check.steps("it tries to load", x, 3, 3);
        waits(x, 3, 1, 3);
        insert(x, 40);
        remove(x, 20);
        state(x, "around", 3, 2, 2, 2);
    }

    /** The remover steps into era 1 and stays there; what it takes out died in era 1. */
    private static void itsOwnErasCount() {
        SplitStore x = Check.storeOf(10, 20);
        remove(x, 10);
        state(x, "its own", 1, 1, 1, 2);
        Check.begin("remove", x, 0, Check.REMOVE, K20, 0);
        Check.steps("remove", x, 0, 2, 3, 4, 5, 10, 11, 12);
        state(x, "not before the step at place 12", 1, 1, 1, 2);
        Check.same("row", x.process(0, Check.ROW), 2);
        Check.steps("remove", x, 0, 0);
        state(x, "its low is 2 now", 1, 1, 1, 0);
        state(x, "its low is 2 now", 2, 1, 2, 2);
        Check.same("row", x.process(0, Check.ROW), 1);
    }

    private static void aProcessAtPlaceOneHasNone() {
        SplitStore x = Check.storeOf(10, 20);
        Check.begin("place 1", x, 3, Check.FIND, K40, 0);
        remove(x, 10);
        remove(x, 20);
        state(x, "place 1", 1, 1, 1, 0);
        Check.same("place", x.process(3, Check.PLACE), 1);
    }

    private static void anIdleProcessHasNone() {
        SplitStore x = Check.storeOf(10, 20);
        begins(x, 3);
        remove(x, 10);
        x.run(3, 1000);
        remove(x, 20);
        state(x, "idle", 1, 1, 1, 0);
        Check.same("row", x.process(0, Check.ROW), 1);
    }

    private static void eachOfThreeOthersCounts() {
        for (int p = 1; p < 4; p++) {
            SplitStore x = Check.storeOf(10, 20);
            begins(x, p);
            remove(x, 10);
            remove(x, 20);
            state(x, "process " + p, 1, 1, 1, 2);
        }
        for (int p = 0; p < 3; p++) {
            SplitStore x = Check.storeOf(10, 20);
            begins(x, p);
            Check.whole("remove", x, 3, Check.REMOVE, K10, 0, 10);
            Check.whole("remove", x, 3, Check.REMOVE, K20, 0, 20);
            state(x, "process " + p, 1, 1, 1, 2);
        }
    }

    /** What one process retired is given back by itself alone, and only by a remove that takes something out. */
    private static void othersKeepTheirRows() {
        SplitStore x = Check.storeOf(10, 20, 30);
        Check.whole("remove", x, 1, Check.REMOVE, K10, 0, 10);
        Check.whole("remove", x, 2, Check.REMOVE, K20, 0, 20);
        Check.same("row of 1", x.process(1, Check.ROW), 1);
        Check.whole("find", x, 1, Check.FIND, K30, 0, 30);
        Check.whole("insert", x, 1, Check.INSERT, K30, 0, 0);
        Check.whole("remove of nothing", x, 1, Check.REMOVE, K10, 0, Check.NONE);
        state(x, "nothing given back", 1, 1, 1, 2);
        Check.whole("remove", x, 1, Check.REMOVE, K30, 0, 30);
        state(x, "given back", 1, 1, 1, 0);
        state(x, "the other's row", 2, 1, 2, 2);
        Check.same("row of 1", x.process(1, Check.ROW), 1);
        Check.same("row of 2", x.process(2, Check.ROW), 1);
    }
}
