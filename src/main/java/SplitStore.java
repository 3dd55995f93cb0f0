import java.util.NoSuchElementException;

/**
 * A store of keys for several processes that never wait for one another.
 * The numbers of the places and the words LOAD, CHANGE, RETIRE, OVER and ENDS are those of the document.
 */
public final class SplitStore {
    public static final int NONE = -1, FULL = -2;

    private static final int PROCESSES = 4, NODES = 64, BUCKETS = 16;
    private static final int KEYS = 256, HASHES = 256, HASH_BITS = 8, HASH_FACTOR = 167;
    private static final int HIGHEST_VALUE = 1000000, LONGEST_RUN = 1000;
    private static final int KEYS_PER_BUCKET = 2;

    private static final int FIND = 0, INSERT = 1, REMOVE = 2;

    private static final int FREE = 0, THERE = 1, RETIRED = 2;

    private static final int IDLE = 0, ENTER = 1, SEEK_BUCKET = 2, LOAD_START = 3, LOAD_CUR = 4, COMPARE = 5;
    private static final int UNLINK_MARKED = 6, PREPARE = 7, LINK = 8, SET_BUCKET = 9;
    private static final int MARK = 10, UNLINK_REMOVED = 11, GIVE_BACK = 12, GROW = 13;

    private final Node[] nodes = new Node[NODES];
    private final Worker[] workers = new Worker[PROCESSES];
    private final int[] bucketNodes = new int[BUCKETS];
    private int size = 1;
    private int count = 0;
    private int era = 1;

    public SplitStore() {
        for (int n = 0; n < NODES; n++) {
            nodes[n] = new Node();
        }
        for (int p = 0; p < PROCESSES; p++) {
            workers[p] = new Worker();
        }
        for (int b = 0; b < BUCKETS; b++) {
            bucketNodes[b] = NONE;
        }
        nodes[0].appear(orderOfBucket(0), NONE, 0, era);
        bucketNodes[0] = 0;
    }

    public boolean start(int process, int operation, int key, int value) {
        if (!isProcess(process) || operation < FIND || operation > REMOVE) {
            return false;
        }
        if (key < 0 || key >= KEYS || value < 0 || value > HIGHEST_VALUE) {
            return false;
        }
        Worker w = workers[process];
        if (w.place != IDLE) {
            return false;
        }
        w.begin(operation, key, value);
        return true;
    }

    public int step(int process) {
        if (!isProcess(process)) {
            return NONE;
        }
        Worker w = workers[process];
        advance(w);
        return w.place;
    }

    public int run(int process, int n) {
        if (!isProcess(process) || n < 0 || n > LONGEST_RUN) {
            return NONE;
        }
        Worker w = workers[process];
        int steps = 0;
        while (steps < n && w.place != IDLE) {
            advance(w);
            steps++;
        }
        return steps;
    }

    public int result(int process) throws NoSuchElementException {
        if (!isProcess(process)) {
            throw new NoSuchElementException("no such process");
        }
        return workers[process].latest;
    }

    public int process(int process, int what) throws NoSuchElementException {
        if (!isProcess(process)) {
            throw new NoSuchElementException("no such process");
        }
        Worker w = workers[process];
        switch (what) {
            case 0: return w.place;
            case 1: return w.low;
            case 2: return w.high;
            case 3: return w.row.length;
            case 4: return w.stack.length;
            case 5: return w.prev;
            case 6: return w.cur;
            case 7: return w.nxt;
            case 8: return w.own;
            default: throw new NoSuchElementException("a process has no such number");
        }
    }

    public int node(int node, int what) throws NoSuchElementException {
        if (!isNode(node)) {
            throw new NoSuchElementException("no such node");
        }
        Node n = nodes[node];
        switch (what) {
            case 0: return n.state;
            case 1: return n.order;
            case 2: return n.next;
            case 3: return n.marked ? 1 : 0;
            case 4: return n.key;
            case 5: return n.value;
            case 6: return n.born;
            case 7: return n.died;
            default: throw new NoSuchElementException("a node has no such number");
        }
    }

    public int bucket(int b) {
        return nodeOfBucket(b);
    }

    public int total(int what) {
        switch (what) {
            case 0: return size;
            case 1: return count;
            case 2: return era;
            case 3: return countNodes(FREE);
            case 4: return countNodes(RETIRED);
            default: return NONE;
        }
    }

    private void advance(Worker w) {
        switch (w.place) {
            case ENTER: enter(w); break;
            case SEEK_BUCKET: seekBucket(w); break;
            case LOAD_START: loadStart(w); break;
            case LOAD_CUR: loadCur(w); break;
            case COMPARE: compare(w); break;
            case UNLINK_MARKED: unlinkMarked(w); break;
            case PREPARE: prepare(w); break;
            case LINK: link(w); break;
            case SET_BUCKET: setBucket(w); break;
            case MARK: mark(w); break;
            case UNLINK_REMOVED: unlinkRemoved(w); break;
            case GIVE_BACK: giveBack(w); break;
            case GROW: grow(w); break;
            default: break;
        }
    }

    private void enter(Worker w) {
        w.low = era;
        w.high = era;
        // the size is a power of two, so the mask is the remainder
        w.bucket = hashOf(w.key) & (size - 1);
        w.stack.cutTo(0);
        w.place = SEEK_BUCKET;
    }

    private void seekBucket(Worker w) {
        int n = nodeOfBucket(w.bucket);
        if (n != NONE) {
            w.start = n;
            w.place = LOAD_START;
        } else {
            w.stack.add(w.bucket);
            w.bucket = parentOf(w.bucket);
        }
    }

    private void loadStart(Worker w) {
        if (!mayLoad(w)) {
            return;
        }
        w.prev = w.start;
        w.cur = nextOf(w.start);
        w.place = LOAD_CUR;
    }

    private void loadCur(Worker w) {
        if (!isNode(w.cur)) {
            searchOver(w, false);
            return;
        }
        if (!mayLoad(w)) {
            return;
        }
        w.nxt = nodes[w.cur].next;
        w.curMarked = nodes[w.cur].marked;
        w.place = COMPARE;
    }

    private void compare(Worker w) {
        if (!isNode(w.cur) || !leadsTo(w.prev, w.cur)) {
            w.place = LOAD_START;
            return;
        }
        if (w.curMarked) {
            w.place = UNLINK_MARKED;
            return;
        }
        int order = nodes[w.cur].order;
        int wanted = wantedOrder(w);
        if (order < wanted) {
            w.prev = w.cur;
            w.cur = w.nxt;
            w.place = LOAD_CUR;
        } else {
            searchOver(w, order == wanted);
        }
    }

    private void searchOver(Worker w, boolean found) {
        if (!w.stack.isEmpty()) {
            // where nothing was found, the node that is linked later takes its place
            w.bucketNode = w.cur;
            w.place = found ? SET_BUCKET : PREPARE;
        } else if (w.cleans) {
            w.place = GIVE_BACK;
        } else if (w.operation == FIND) {
            end(w, found ? valueOf(w.cur) : NONE);
        } else if (w.operation == INSERT && found) {
            end(w, 0);
        } else if (w.operation == INSERT) {
            w.place = PREPARE;
        } else if (found) {
            w.place = MARK;
        } else {
            end(w, NONE);
        }
    }

    private void unlinkMarked(Worker w) {
        if (change(w.prev, w.cur, w.nxt, false)) {
            retire(w, w.cur);
            w.cur = w.nxt;
            w.place = LOAD_CUR;
        } else {
            w.place = LOAD_START;
        }
    }

    private void prepare(Worker w) {
        if (w.own == NONE) {
            w.own = takeFreeNode(w);
        }
        if (!isNode(w.own)) {
            end(w, FULL);
            return;
        }
        nodes[w.own].pointTo(w.cur, false);
        w.place = LINK;
    }

    private void link(Worker w) {
        if (!change(w.prev, w.cur, w.own, false)) {
            w.place = LOAD_START;
            return;
        }
        int linked = w.own;
        w.own = NONE;
        if (w.stack.isEmpty()) {
            count++;
            w.place = GROW;
        } else {
            w.bucketNode = linked;
            w.place = SET_BUCKET;
        }
    }

    private void setBucket(Worker w) {
        freeOwn(w);
        int b = w.stack.top();
        if (isBucket(b) && bucketNodes[b] == NONE) {
            bucketNodes[b] = w.bucketNode;
        }
        w.stack.dropTop();
        w.start = w.bucketNode;
        w.place = LOAD_START;
    }

    private void mark(Worker w) {
        if (change(w.cur, w.nxt, w.nxt, true)) {
            count--;
            w.answer = valueOf(w.cur);
            w.place = UNLINK_REMOVED;
        } else {
            w.place = LOAD_START;
        }
    }

    private void unlinkRemoved(Worker w) {
        if (change(w.prev, w.cur, w.nxt, false)) {
            retire(w, w.cur);
            w.place = GIVE_BACK;
        } else {
            w.cleans = true;
            w.place = LOAD_START;
        }
    }

    private void giveBack(Worker w) {
        int kept = 0;
        for (int i = 0; i < w.row.length; i++) {
            int n = w.row.at(i);
            if (!isNode(n)) {
                continue;
            }
            if (canBeReached(nodes[n])) {
                w.row.put(kept, n);
                kept++;
            } else {
                nodes[n].state = FREE;
            }
        }
        w.row.cutTo(kept);
        end(w, w.answer);
    }

    private void grow(Worker w) {
        if (count > KEYS_PER_BUCKET * size && size < BUCKETS) {
            size = 2 * size;
        }
        end(w, 1);
    }

    private void end(Worker w, int answer) {
        freeOwn(w);
        w.rest(answer);
    }

    private boolean mayLoad(Worker w) {
        if (w.high == era) {
            return true;
        }
        w.high = era;
        return false;
    }

    private boolean leadsTo(int n, int next) {
        return isNode(n) && nodes[n].next == next && !nodes[n].marked;
    }

    private boolean change(int n, int from, int to, boolean marked) {
        if (!leadsTo(n, from)) {
            return false;
        }
        nodes[n].pointTo(to, marked);
        return true;
    }

    private void retire(Worker w, int n) {
        if (!isNode(n)) {
            return;
        }
        nodes[n].state = RETIRED;
        nodes[n].died = era;
        era++;
        w.row.add(n);
    }

    private int takeFreeNode(Worker w) {
        boolean forKey = w.stack.isEmpty();
        for (int n = 0; n < NODES; n++) {
            if (nodes[n].state == FREE) {
                nodes[n].appear(wantedOrder(w), forKey ? w.key : NONE, forKey ? w.value : 0, era);
                return n;
            }
        }
        return NONE;
    }

    private void freeOwn(Worker w) {
        if (isNode(w.own)) {
            nodes[w.own].state = FREE;
        }
        w.own = NONE;
    }

    private boolean canBeReached(Node n) {
        for (int p = 0; p < PROCESSES; p++) {
            Worker w = workers[p];
            if (w.place != IDLE && w.low <= n.died && n.born <= w.high) {
                return true;
            }
        }
        return false;
    }

    private int countNodes(int state) {
        int found = 0;
        for (int n = 0; n < NODES; n++) {
            if (nodes[n].state == state) {
                found++;
            }
        }
        return found;
    }

    private int nextOf(int n) {
        return isNode(n) ? nodes[n].next : NONE;
    }

    private int valueOf(int n) {
        return isNode(n) ? nodes[n].value : NONE;
    }

    private int nodeOfBucket(int b) {
        return isBucket(b) ? bucketNodes[b] : NONE;
    }

    private static boolean isProcess(int p) {
        return p >= 0 && p < PROCESSES;
    }

    private static boolean isNode(int n) {
        return n >= 0 && n < NODES;
    }

    private static boolean isBucket(int b) {
        return b >= 0 && b < BUCKETS;
    }

    private static int wantedOrder(Worker w) {
        return w.stack.isEmpty() ? orderOfKey(w.key) : orderOfBucket(w.stack.top());
    }

    private static int orderOfKey(int key) {
        return 2 * turned(hashOf(key)) + 1;
    }

    private static int orderOfBucket(int b) {
        return 2 * turned(b);
    }

    private static int hashOf(int key) {
        return key * HASH_FACTOR % HASHES;
    }

    private static int turned(int bits) {
        int answer = 0;
        for (int i = 0; i < HASH_BITS; i++) {
            answer = 2 * answer + ((bits >> i) & 1);
        }
        return answer;
    }

    private static int parentOf(int b) {
        for (int bit = BUCKETS / 2; bit > 0; bit /= 2) {
            if ((b & bit) != 0) {
                return b - bit;
            }
        }
        return 0;
    }

    /** A node keeps its numbers when it becomes free, for the document asks for them until it is taken again. */
    private static final class Node {
        int state = FREE;
        int order = 0;
        int next = NONE;
        boolean marked = false;
        int key = NONE;
        int value = 0;
        int born = 0;
        int died = 0;

        void appear(int newOrder, int newKey, int newValue, int era) {
            state = THERE;
            order = newOrder;
            key = newKey;
            value = newValue;
            born = era;
            died = 0;
            pointTo(NONE, false);
        }

        void pointTo(int newNext, boolean newMarked) {
            next = newNext;
            marked = newMarked;
        }
    }

    /** A process; while it is idle, only its row and its latest result mean anything. */
    private static final class Worker {
        int place = IDLE;
        int operation = FIND;
        int key = 0;
        int value = 0;
        int low = 0;
        int high = 0;
        int bucket = 0;
        // a bucket has at most four 1s, so at most four parents lack a node
        final Numbers stack = new Numbers(4);
        int start = NONE;
        int prev = NONE;
        int cur = NONE;
        int nxt = NONE;
        boolean curMarked = false;
        int own = NONE;
        int bucketNode = NONE;
        boolean cleans = false;
        int answer = NONE;
        int latest = NONE;
        final Numbers row = new Numbers(NODES);

        void begin(int newOperation, int newKey, int newValue) {
            operation = newOperation;
            key = newKey;
            value = newValue;
            cleans = false;
            place = ENTER;
        }

        void rest(int result) {
            latest = result;
            low = 0;
            high = 0;
            stack.cutTo(0);
            prev = NONE;
            cur = NONE;
            nxt = NONE;
            place = IDLE;
        }
    }

    /** Numbers in a row of a fixed length: made once and used again, so that no step makes an object. */
    private static final class Numbers {
        final int[] items;
        int length = 0;

        Numbers(int most) {
            items = new int[most];
        }

        boolean isEmpty() {
            return length == 0;
        }

        void add(int item) {
            if (length < items.length) {
                items[length] = item;
                length++;
            }
        }

        int at(int i) {
            return i >= 0 && i < length ? items[i] : NONE;
        }

        void put(int i, int item) {
            if (i >= 0 && i < length) {
                items[i] = item;
            }
        }

        int top() {
            return at(length - 1);
        }

        void dropTop() {
            cutTo(length - 1);
        }

        void cutTo(int newLength) {
            if (newLength >= 0 && newLength < length) {
                length = newLength;
            }
        }
    }
}
