/** Promise 17: count. */
public final class CountTest {
    public static void main(String[] args) {
        everyCount();
        otherWhat();
        Checked.end();
    }

    private static void everyCount() {
        Checked x = Checked.managed(3, "everyCount");
        countsAre(x, 0, 0, 0, 0, 0, 0, 0, 0);
        x.serve(1, 5, true);
        x.serve(1, 6, true);
        x.lend(1, 5, 1);
        x.lend(1, 6, 2);
        countsAre(x, 2, 0, 0, 0, 0, 0, 0, 0);
        x.sendCells(1, 0, 5, false, 0);
        countsAre(x, 2, 1, 0, 0, 5, 0, 0, 0);
        x.take(0, 1);
        countsAre(x, 2, 0, 1, 0, 5, 0, 0, 0);
        x.sendCells(1, 0, 7, true, 0);
        x.sendCells(1, 0, 4, true, 0);
        countsAre(x, 2, 1, 1, 0, 16, 11, 0, 0);
        x.watch(0, 2, 1, true);
        x.watch(0, 2, 1, true);
        x.watch(0, 1, 1, true);
        countsAre(x, 2, 1, 1, 0, 16, 11, 3, 0);
        x.send(0, 1, false, 0);
        x.item(0, 0, 0, true);
        x.item(0, 1, 0, true);
        x.item(0, 2, 0, true);
        x.item(0, 0, 0, true);
        countsAre(x, 2, 1, 1, 1, 16, 11, 3, 4);
        x.take(0, 2);
        x.free(0, 5, true);
        countsAre(x, 2, 1, 1, 1, 9, 4, 3, 4);
        x.drop(0, 1, true, true);
        x.free(0, 0, true);
        countsAre(x, 1, 1, 1, 1, 4, 4, 3, 4);
        x.die(1);
        countsAre(x, 1, 5, 1, 1, 4, 4, 0, 4);
        x.reply(0, -2);
        x.draft(0, 3, true);
        countsAre(x, 1, 5, 0, 1, 4, 4, 0, 0);
        x.take(0, 2);
        x.take(0, 5);
        countsAre(x, 1, 3, 0, 0, 4, 4, 0, 0);
    }

    /** The counts of process 0, in their order. */
    private static void countsAre(Checked x, int... want) {
        for (int what = 0; what < want.length; what++) {
            x.count(0, what, want[what]);
        }
    }

    private static void otherWhat() {
        Checked x = Checked.managed(2, "otherWhat");
        x.item(0, 0, 0, true);
        int[] wrong = {-1, 8, Integer.MIN_VALUE, Integer.MAX_VALUE};
        for (int what : wrong) {
            x.count(0, what, -1);
        }
    }
}
