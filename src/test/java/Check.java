import java.util.ArrayList;
import java.util.List;
import java.util.NoSuchElementException;
import java.util.function.Supplier;

/** Counts the answers that are not as due, and the small moves that the tests share. */
final class Check {
    static final int FIND = 0, INSERT = 1, REMOVE = 2;
    static final int PLACE = 0, LOW = 1, HIGH = 2, ROW = 3, STACK = 4, PREV = 5, CUR = 6, NXT = 7, OWN = 8;
    static final int STATE = 0, ORDER = 1, NEXT = 2, MARK = 3, KEY = 4, VALUE = 5, BORN = 6, DIED = 7;
    static final int SIZE = 0, COUNT = 1, ERA = 2, FREE = 3, RETIRED = 4;
    static final int NONE = SplitStore.NONE, FULL = SplitStore.FULL;

    private static int wrong = 0;

    private Check() { }

    static void same(String what, long got, long due) {
        if (got != due) {
            wrong++;
            System.out.println(what + " answered " + got + ", due is " + due);
        }
    }

    static void holds(String what, boolean got) {
        same(what, got ? 1 : 0, 1);
    }

    static void refused(String what, boolean got) {
        same(what, got ? 1 : 0, 0);
    }

    static void missing(String what, Runnable call) {
        try {
            call.run();
        } catch (NoSuchElementException e) {
            return;
        }
        wrong++;
        System.out.println(what + " answered, due is NoSuchElementException");
    }

    /** Steps the process once for each place, which is the one that is due behind that step. */
    static void steps(String what, SplitStore x, int process, int... places) {
        for (int i = 0; i < places.length; i++) {
            same(what + ", step " + (i + 1) + " of process " + process, x.step(process), places[i]);
        }
    }

    /** An operation alone from its start to its end. */
    static void whole(String what, SplitStore x, int process, int operation, int key, int value, int result) {
        holds(what + ": start", x.start(process, operation, key, value));
        x.run(process, 1000);
        same(what + ": place", x.process(process, PLACE), 0);
        same(what + ": result", x.result(process), result);
    }

    static void begin(String what, SplitStore x, int process, int operation, int key, int value) {
        holds(what + ": start of process " + process, x.start(process, operation, key, value));
    }

    /** Nodes 1, 2, .. hold the keys in the order in which they are named, with their turn as value. */
    static SplitStore storeOf(int... turns) {
        SplitStore x = new SplitStore();
        for (int turn : turns) {
            whole("insert at " + turn, x, 0, INSERT, keyAt(turn), turn, 1);
        }
        return x;
    }

    /** As many keys as are said, at most 17, all of which come to bucket 0: no other bucket has a node then. */
    static SplitStore storeWith(int keys) {
        SplitStore x = new SplitStore();
        for (int turn = 0; turn < keys; turn++) {
            x.start(0, INSERT, keyAt(turn), turn);
            x.run(0, 1000);
        }
        same("count", x.total(COUNT), keys);
        return x;
    }

    /** Keys 0, 4, 8, .. with values 0, 1, 2, ..: with 60 of them and the buckets 0, 4, 8 and 12 no node is free. */
    static SplitStore storeOfFours(int keys) {
        SplitStore x = new SplitStore();
        for (int i = 0; i < keys; i++) {
            x.start(0, INSERT, 4 * i, i);
            x.run(0, 1000);
        }
        same("count", x.total(COUNT), keys);
        return x;
    }

    /** All that the questions answer of the object that the maker makes: made more than once, for it bears 512 calls. */
    static List<Integer> stateOf(Supplier<SplitStore> maker) {
        List<Integer> state = new ArrayList<>();
        for (int half = 0; half < 2; half++) {
            SplitStore x = maker.get();
            for (int n = 32 * half; n < 32 * half + 32; n++) {
                for (int what = 0; what < 8; what++) state.add(x.node(n, what));
            }
        }
        SplitStore x = maker.get();
        for (int p = 0; p < 4; p++) {
            for (int what = 0; what < 9; what++) state.add(x.process(p, what));
            state.add(x.result(p));
        }
        for (int b = 0; b < 16; b++) state.add(x.bucket(b));
        for (int what = 0; what < 5; what++) state.add(x.total(what));
        return state;
    }

    /** The one key whose order is 2 * turn + 1. */
    static int keyAt(int turn) {
        for (int key = 0; key < 256; key++) {
            if (turned(key * 167 % 256) == turn) {
                return key;
            }
        }
        throw new IllegalStateException("no key has that order");
    }

    /** The one key that has the hash. */
    static int keyOf(int hash) {
        return keyAt(turned(hash));
    }

    static int turned(int bits) {
        return Integer.reverse(bits) >>> 24;
    }

    static void finish() {
        System.out.println(wrong == 0 ? "all answers are as due" : wrong + " answers are not as due");
        System.exit(wrong == 0 ? 0 : 1);
    }
}
