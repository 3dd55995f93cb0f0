import java.util.ArrayDeque;
import java.util.ArrayList;
import java.util.Deque;
import java.util.List;
import java.util.NoSuchElementException;
import java.util.TreeMap;

/**
 * The document's words once more, written with objects and the Java library and apart from SplitStore,
 * so that a slip in one of the two shows as a difference.
 */
final class Model {
    private static final class Cell {
        final int number;
        int state, order, value, born, died;
        Integer key;
        Link link = new Link(null, false);

        Cell(int number) { this.number = number; }
    }

    private record Link(Cell to, boolean mark) {
        boolean isJust(Cell cell) { return to == cell && !mark; }
    }

    private static final class Proc {
        int place, operation, key, value, low, high, bucket, willEndWith;
        int result = -1;
        boolean toClean, loadedMark;
        Deque<Integer> stack = new ArrayDeque<>();
        Cell start, prev, cur, nxt, own, d;
        final List<Cell> row = new ArrayList<>();
    }

    private final List<Cell> cells = new ArrayList<>();
    private final List<Proc> procs = new ArrayList<>();
    private final TreeMap<Integer, Cell> buckets = new TreeMap<>();
    private int size = 1, count = 0, era = 1;

    Model() {
        for (int i = 0; i < 64; i++) cells.add(new Cell(i));
        for (int i = 0; i < 4; i++) procs.add(new Proc());
        cells.get(0).state = 1;
        cells.get(0).born = 1;
        buckets.put(0, cells.get(0));
    }

    boolean start(int process, int operation, int key, int value) {
        boolean asSaid = within(process, 3) && within(operation, 2) && within(key, 255) && within(value, 1000000);
        if (!asSaid || procs.get(process).place != 0) return false;
        Proc p = procs.get(process);
        p.operation = operation;
        p.key = key;
        p.value = value;
        p.toClean = false;
        p.place = 1;
        return true;
    }

    int step(int process) {
        if (!within(process, 3)) return -1;
        Proc p = procs.get(process);
        if (p.place != 0) p.place = stepFrom(p);
        return p.place;
    }

    int run(int process, int n) {
        if (!within(process, 3) || !within(n, 1000)) return -1;
        int done = 0;
        for (; done < n && procs.get(process).place != 0; done++) step(process);
        return done;
    }

    int result(int process) {
        return procs.get(checked(process, 3)).result;
    }

    int process(int process, int what) {
        Proc p = procs.get(checked(process, 3));
        return switch (what) {
            case 0 -> p.place;
            case 1 -> p.low;
            case 2 -> p.high;
            case 3 -> p.row.size();
            case 4 -> p.stack.size();
            case 5 -> number(p.prev);
            case 6 -> number(p.cur);
            case 7 -> number(p.nxt);
            case 8 -> number(p.own);
            default -> throw new NoSuchElementException();
        };
    }

    int node(int node, int what) {
        Cell c = cells.get(checked(node, 63));
        return switch (what) {
            case 0 -> c.state;
            case 1 -> c.order;
            case 2 -> number(c.link.to());
            case 3 -> c.link.mark() ? 1 : 0;
            case 4 -> c.key == null ? -1 : c.key;
            case 5 -> c.value;
            case 6 -> c.born;
            case 7 -> c.died;
            default -> throw new NoSuchElementException();
        };
    }

    int bucket(int b) {
        return number(buckets.get(b));
    }

    int total(int what) {
        return switch (what) {
            case 0 -> size;
            case 1 -> count;
            case 2 -> era;
            case 3 -> (int) cells.stream().filter(c -> c.state == 0).count();
            case 4 -> (int) cells.stream().filter(c -> c.state == 2).count();
            default -> -1;
        };
    }

    private int stepFrom(Proc p) {
        switch (p.place) {
            case 1:
                p.low = p.high = era;
                p.bucket = hash(p.key) % size;
                p.stack = new ArrayDeque<>();
                return 2;
            case 2:
                if (buckets.containsKey(p.bucket)) {
                    p.start = buckets.get(p.bucket);
                    return 3;
                }
                p.stack.push(p.bucket);
                p.bucket ^= Integer.highestOneBit(p.bucket);
                return 2;
            case 3:
                if (eraMovedOn(p)) return 3;
                p.prev = p.start;
                p.cur = p.start.link.to();
                return 4;
            case 4:
                if (p.cur == null) return over(p, false);
                if (eraMovedOn(p)) return 4;
                p.nxt = p.cur.link.to();
                p.loadedMark = p.cur.link.mark();
                return 5;
            case 5:
                if (!p.prev.link.isJust(p.cur)) return 3;
                if (p.loadedMark) return 6;
                if (p.cur.order >= wanted(p)) return over(p, p.cur.order == wanted(p));
                p.prev = p.cur;
                p.cur = p.nxt;
                return 4;
            default:
                return changeFrom(p);
        }
    }

    private int changeFrom(Proc p) {
        switch (p.place) {
            case 6:
                if (!changed(p.prev, p.cur, new Link(p.nxt, false))) return 3;
                retire(p);
                p.cur = p.nxt;
                return 4;
            case 7:
                if (p.own == null && !takesNode(p)) return end(p, -2);
                p.own.link = new Link(p.cur, false);
                return 8;
            case 8:
                if (!changed(p.prev, p.cur, new Link(p.own, false))) return 3;
                p.d = p.own;
                p.own = null;
                if (!p.stack.isEmpty()) return 9;
                count++;
                return 13;
            case 9:
                dropOwn(p);
                buckets.putIfAbsent(p.stack.pop(), p.d);
                p.start = p.d;
                return 3;
            case 10:
                if (!changed(p.cur, p.nxt, new Link(p.nxt, true))) return 3;
                count--;
                p.willEndWith = p.cur.value;
                return 11;
            case 11:
                if (changed(p.prev, p.cur, new Link(p.nxt, false))) {
                    retire(p);
                    return 12;
                }
                p.toClean = true;
                return 3;
            case 12:
                List<Cell> unreached = p.row.stream().filter(c -> procs.stream().noneMatch(q -> meets(q, c))).toList();
                unreached.forEach(c -> c.state = 0);
                p.row.removeAll(unreached);
                return end(p, p.willEndWith);
            case 13:
                if (count > 2 * size && size < 16) size *= 2;
                return end(p, 1);
            default:
                throw new IllegalStateException("no such place");
        }
    }

    private int over(Proc p, boolean found) {
        if (!p.stack.isEmpty()) {
            if (!found) return 7;
            p.d = p.cur;
            return 9;
        }
        if (p.toClean) return 12;
        return switch (p.operation) {
            case 0 -> end(p, found ? p.cur.value : -1);
            case 1 -> found ? end(p, 0) : 7;
            default -> found ? 10 : end(p, -1);
        };
    }

    private int end(Proc p, int result) {
        dropOwn(p);
        p.result = result;
        p.low = p.high = 0;
        p.stack = new ArrayDeque<>();
        p.start = p.prev = p.cur = p.nxt = null;
        return 0;
    }

    private void dropOwn(Proc p) {
        if (p.own != null) p.own.state = 0;
        p.own = null;
    }

    private boolean eraMovedOn(Proc p) {
        boolean moved = p.high != era;
        p.high = era;
        return moved;
    }

    private static boolean changed(Cell cell, Cell from, Link to) {
        if (!cell.link.isJust(from)) return false;
        cell.link = to;
        return true;
    }

    private void retire(Proc p) {
        p.cur.state = 2;
        p.cur.died = era++;
        p.row.add(p.cur);
    }

    private boolean takesNode(Proc p) {
        p.own = cells.stream().filter(c -> c.state == 0).findFirst().orElse(null);
        if (p.own == null) return false;
        boolean ofBucket = !p.stack.isEmpty();
        p.own.state = 1;
        p.own.order = wanted(p);
        p.own.key = ofBucket ? null : (Integer) p.key;
        p.own.value = ofBucket ? 0 : p.value;
        p.own.born = era;
        p.own.died = 0;
        return true;
    }

    private static boolean meets(Proc q, Cell c) {
        return q.place != 0 && Math.max(q.low, c.born) <= Math.min(q.high, c.died);
    }

    private static int wanted(Proc p) {
        return p.stack.isEmpty() ? 2 * turned(hash(p.key)) + 1 : 2 * turned(p.stack.peek());
    }

    private static int hash(int key) {
        return Math.floorMod(key * 167, 256);
    }

    private static int turned(int bits) {
        return Integer.reverse(bits) >>> 24;
    }

    private static int number(Cell cell) {
        return cell == null ? -1 : cell.number;
    }

    private static boolean within(int number, int most) {
        return number >= 0 && number <= most;
    }

    private static int checked(int number, int most) {
        if (!within(number, most)) throw new NoSuchElementException();
        return number;
    }
}
