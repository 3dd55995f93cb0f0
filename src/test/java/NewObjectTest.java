/** Promise 1: the state of a new object, asked of several objects to stay within the calls that one is good for. */
final class NewObjectTest {
    public static void main(String[] args) {
        totals();
        nodes();
        buckets();
        processes();
        objectsAreApart();
        Check.finish();
    }

    private static void totals() {
        SplitStore x = new SplitStore();
        Check.same("size", x.total(Check.SIZE), 1);
        Check.same("count", x.total(Check.COUNT), 0);
        Check.same("era", x.total(Check.ERA), 1);
        Check.same("free", x.total(Check.FREE), 63);
        Check.same("retired", x.total(Check.RETIRED), 0);
    }

    private static void nodes() {
        int[] first = {1, 0, Check.NONE, 0, Check.NONE, 0, 1, 0};
        int[] free = {0, 0, Check.NONE, 0, Check.NONE, 0, 0, 0};
        for (int n = 0; n < 64; n++) {
            SplitStore x = new SplitStore();
            for (int what = 0; what < 8; what++) {
                Check.same("node(" + n + ", " + what + ")", x.node(n, what), (n == 0 ? first : free)[what]);
            }
        }
    }

    private static void buckets() {
        SplitStore x = new SplitStore();
        Check.same("bucket(0)", x.bucket(0), 0);
        for (int b = 1; b < 16; b++) {
            Check.same("bucket(" + b + ")", x.bucket(b), Check.NONE);
        }
    }

    private static void processes() {
        SplitStore x = new SplitStore();
        for (int p = 0; p < 4; p++) {
            Check.same("result(" + p + ")", x.result(p), Check.NONE);
            for (int what = 0; what < 9; what++) {
                Check.same("process(" + p + ", " + what + ")", x.process(p, what), what < 5 ? 0 : Check.NONE);
            }
        }
    }

    private static void objectsAreApart() {
        SplitStore x = new SplitStore();
        SplitStore y = new SplitStore();
        Check.whole("insert into one object", x, 0, Check.INSERT, 7, 70, 1);
        Check.same("count of the other", y.total(Check.COUNT), 0);
        Check.same("free of the other", y.total(Check.FREE), 63);
        Check.same("result of the other", y.result(0), Check.NONE);
    }
}
