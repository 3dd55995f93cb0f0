/** An object is good for 512 calls: the last of them is answered as the first. */
final class LastCallTest {
    public static void main(String[] args) {
        inserts();
        removes();
        Check.finish();
    }

    /** Each insert takes two calls; from where no node is free they end with FULL. */
    private static void inserts() {
        SplitStore x = new SplitStore();
        for (int i = 0; i < 255; i++) {
            Check.holds("start " + i, x.start(i % 4, Check.INSERT, i, i));
            Check.holds("run " + i, x.run(i % 4, 1000) > 0);
        }
        Check.same("call 511", x.total(Check.FREE), 0);
        Check.same("call 512", x.result(254 % 4), Check.FULL);
    }

    /** Inserts and removes of one key in turn: one era for each remove, and two nodes that are used in turn. */
    private static void removes() {
        SplitStore x = new SplitStore();
        for (int i = 0; i < 254; i++) {
            Check.holds("start " + i, x.start(0, i % 2 == 0 ? Check.INSERT : Check.REMOVE, 7, i));
            Check.holds("run " + i, x.run(0, 1000) > 0);
        }
        Check.same("call 509", x.total(Check.ERA), 128);
        Check.same("call 510", x.total(Check.RETIRED), 1);
        Check.same("call 511", x.total(Check.FREE), 62);
        Check.same("call 512", x.result(0), 252);
    }
}
