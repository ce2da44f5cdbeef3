/** Promises 9 and 10: take, latest. */
public final class TakeTest {
    public static void main(String[] args) {
        inOrder();
        twelveOpen();
        waitsNoMore();
        latestOfEachKind();
        latestStays();
        wrongWhat();
        Checked.end();
    }

    private static void inOrder() {
        Checked x = Checked.managed(4, "inOrder");
        x.take(0, 0);
        x.sendCells(1, 0, 2, true, 0);
        x.sendCells(2, 0, 3, false, 0);
        x.sendCells(3, 0, 4, false, 0);
        x.count(0, 1, 3);
        x.count(0, 2, 0);
        x.takes(0, 2, 0, 0, 1, 0);
        x.count(0, 2, 0);
        x.takes(0, 1, 0, 2, 2, 0);
        x.count(0, 2, 1);
        x.count(0, 1, 1);
        x.takes(0, 1, 0, 5, 3, 0);
        x.count(0, 2, 2);
        x.count(0, 1, 0);
        x.take(0, 0);
        x.count(0, 4, 9);
    }

    private static void twelveOpen() {
        Checked x = Checked.managed(3, "twelveOpen");
        for (int n = 0; n < 12; n++) {
            x.send(2, 0, false, 0);
            x.take(0, 1);
            x.reborn(2);
        }
        x.count(0, 2, 12);
        x.send(1, 0, true, 0);
        x.take(0, 2);
        x.send(1, 0, false, 0);
        x.sendCells(2, 0, 2, false, 0);
        x.free(0, 12, true);
        x.send(2, 0, true, 0);
        x.latestIs(0, 2, 0, 12, 1, 0);
        x.take(0, 0);
        x.take(0, 0);
        x.latestIs(0, 2, 0, 12, 1, 0);
        x.count(0, 1, 3);
        x.free(0, 13, false);
        x.reply(0, -2);
        x.takes(0, 1, 0, 13, 1, 0);
        x.count(0, 2, 12);
        x.take(0, 0);
        x.reply(0, 0);
        x.takes(0, 1, 0, 14, 2, 0);
        x.takes(0, 2, 0, 12, 2, 0);
    }

    private static void waitsNoMore() {
        Checked x = Checked.managed(3, "waitsNoMore");
        x.serve(2, 1, true);
        x.lend(2, 1, 1);
        x.send(0, 1, false, 0);
        x.send(1, 0, false, 0);
        x.send(1, 0, true, 0);
        x.watch(0, 1, 8, true);
        x.take(0, 1);
        x.take(0, 2);
        x.count(0, 3, 1);
        x.take(2, 1);
        x.reply(2, 0);
        x.count(0, 3, 1);
        x.take(0, 3);
        x.count(0, 3, 0);
        x.send(0, 1, false, 0);
        x.die(2);
        x.count(0, 3, 1);
        x.take(0, 5);
        x.count(0, 3, 0);
        x.take(0, 4);
        x.count(1, 3, 1);
    }

    private static void latestOfEachKind() {
        Checked x = Checked.managed(3, "latestOfEachKind");
        x.latestIs(0, 0, -1, -1, -1, 0);
        x.serve(1, 9, true);
        x.lend(1, 9, 1);
        x.latestIs(0, 2, 0, 0, 1, 0);
        x.watch(0, 1, -77, true);
        x.sendCells(2, 0, 3, false, 0);
        x.sendCells(0, 1, 3, false, 0);
        x.takes(1, 1, 9, 0, 0, 0);
        x.reply(1, 0);
        x.takes(0, 1, 0, 0, 2, 0);
        x.takes(0, 3, -1, 3, 1, 0);
        x.send(0, 1, false, 0);
        x.die(1);
        x.takes(0, 5, -1, -1, -1, 0);
        x.takes(0, 4, -1, -1, -1, -77);
        x.latestIs(2, 0, -1, -1, -1, 0);
    }

    private static void latestStays() {
        Checked x = Checked.managed(3, "latestStays");
        x.sendCells(2, 0, 3, true, 0);
        x.sendCells(1, 0, 3, false, 0);
        x.take(0, 2);
        x.takes(0, 1, 0, 3, 1, 0);
        x.free(0, 3, true);
        x.latestIs(0, 1, 0, 3, 1, 0);
        x.take(0, 0);
        x.latestIs(0, 1, 0, 3, 1, 0);
        x.reply(0, 0);
        x.die(1);
        x.send(2, 0, false, 0);
        x.latestIs(0, 1, 0, 3, 1, 0);
        x.reborn(0);
        x.latestIs(0, 0, -1, -1, -1, 0);
    }

    private static void wrongWhat() {
        Checked x = Checked.managed(2, "wrongWhat");
        int[] wrong = {-1, 5, Integer.MIN_VALUE, Integer.MAX_VALUE};
        for (int what : wrong) {
            x.raises("latest(0, " + what + ")", Checked.NO_ELEMENT, d -> d.latest(0, what));
        }
        x.send(1, 0, true, 0);
        x.take(0, 2);
        for (int what : wrong) {
            x.raises("latest(0, " + what + ")", Checked.NO_ELEMENT, d -> d.latest(0, what));
        }
    }
}
