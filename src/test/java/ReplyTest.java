/** Promise 11: reply. */
public final class ReplyTest {
    public static void main(String[] args) {
        noneOpen();
        lastOpenedFirst();
        itemsOfReply();
        callerDied();
        callerDiedBeforeBad();
        bad();
        fullInbox();
        fullArea();
        oneWayCellsDoNotMatter();
        fullHandles();
        afterFree();
        Checked.end();
    }

    private static void noneOpen() {
        Checked x = Checked.managed(2, "noneOpen");
        x.reply(0, -1);
        x.send(1, 0, false, 0);
        x.reply(0, -1);
        x.send(1, 0, true, 0);
        x.item(0, 2, 9, true);
        x.reply(0, -1);
        x.draft(0, 0, true);
        x.take(0, 1);
        x.take(0, 2);
        x.reply(0, 0);
        x.reply(0, -1);
        x.count(1, 1, 1);
    }

    private static void lastOpenedFirst() {
        Checked x = Checked.managed(4, "lastOpenedFirst");
        for (int p = 1; p <= 3; p++) {
            x.send(p, 0, false, 0);
        }
        x.take(0, 1);
        x.take(0, 1);
        x.item(0, 0, 22, true);
        x.reply(0, 0);
        x.count(0, 2, 1);
        x.take(0, 1);
        x.item(0, 0, 33, true);
        x.reply(0, 0);
        x.item(0, 0, 11, true);
        x.reply(0, 0);
        x.count(0, 2, 0);
        for (int p = 1; p <= 3; p++) {
            x.count(p, 1, 1);
            x.takes(p, 3, -1, 0, 0, 0);
            x.reads(p, 0, 0, 0, 11 * p);
            x.take(p, 0);
        }
    }

    private static void itemsOfReply() {
        Checked x = Checked.managed(3, "itemsOfReply");
        x.serve(1, 6, true);
        x.serve(2, 7, true);
        x.lend(2, 7, 1);
        x.item(1, 1, 6, true);
        x.send(1, 0, false, 0);
        x.take(0, 1);
        x.draft(0, 3, true);
        x.item(0, 2, 2, true);
        x.item(0, 2, 1, true);
        x.item(0, 1, 0, true);
        x.item(0, 0, -8, true);
        x.reply(0, 0);
        x.count(0, 7, 0);
        x.takes(1, 3, -1, 0, 0, 0);
        x.read(1, 0, 0, 2, 7);
        x.reads(1, 0, 0, 1, 6);
        x.reads(1, 0, 1, 2, 1);
        x.reads(1, 0, 2, 2, 2);
        x.reads(1, 0, 3, 0, -8);
        x.handleIs(1, 1, 1, 0, 2, 7, 0);
        x.handleIs(1, 2, 1, 0, 0, 0, 0);
        x.count(1, 5, 0);
        x.free(1, 0, true);
        x.count(1, 0, 0);
    }

    private static void callerDied() {
        Checked x = Checked.managed(3, "callerDied");
        x.send(1, 0, false, 0);
        x.send(2, 0, false, 0);
        x.take(0, 1);
        x.take(0, 1);
        x.die(2);
        x.reborn(1);
        x.send(1, 0, false, 0);
        x.draft(0, 2, true);
        x.item(0, 0, 5, true);
        x.reply(0, -2);
        x.count(0, 2, 1);
        x.count(0, 7, 1);
        x.reply(0, -2);
        x.count(0, 2, 0);
        x.count(0, 7, 1);
        x.count(1, 1, 0);
        x.reply(0, -1);
        x.take(0, 1);
        x.reply(0, 0);
        x.takes(1, 3, -1, 0, 0, 0);
        x.read(1, 0, 0, 2, 3);
    }

    private static void callerDiedBeforeBad() {
        Checked x = Checked.managed(3, "callerDiedBeforeBad");
        x.send(1, 0, false, 0);
        x.take(0, 1);
        x.item(0, 1, 9, true);
        x.die(1);
        x.reply(0, -2);
        x.count(0, 7, 1);
        x.reply(0, -1);
    }

    private static void bad() {
        Checked x = Checked.managed(2, "bad");
        x.send(1, 0, false, 0);
        x.take(0, 1);
        x.item(0, 0, 9, true);
        x.item(0, 1, 9, true);
        x.reply(0, -3);
        x.draft(0, 0, true);
        x.item(0, 2, 1, true);
        x.reply(0, -3);
        x.count(0, 2, 1);
        x.count(0, 7, 1);
        x.count(1, 1, 0);
        x.count(1, 3, 1);
        x.draft(0, 0, true);
        x.item(0, 2, 0, true);
        x.reply(0, 0);
    }

    private static void fullInbox() {
        Checked x = Checked.with(3, "fullInbox");
        x.serve(1, 0, true);
        x.manage(1, 0, true);
        x.serve(0, 3, true);
        x.item(0, 1, 3, true);
        x.send(0, 0, true, 0);
        x.take(1, 2);
        x.send(1, 1, false, 0);
        x.take(0, 1);
        for (int n = 0; n < 12; n++) {
            x.send(2, 0, false, 0);
            x.reborn(2);
        }
        x.count(1, 1, 12);
        x.item(0, 1, 3, true);
        x.reply(0, -4);
        x.count(0, 2, 1);
        x.count(0, 7, 1);
        x.handle(1, 1, 0, 1);
        x.take(1, 1);
        x.reply(0, 0);
        x.count(0, 2, 0);
        x.count(1, 1, 12);
        x.handle(1, 1, 0, 2);
    }

    private static void fullArea() {
        Checked x = Checked.managed(4, "fullArea");
        x.serve(1, 3, true);
        x.send(1, 0, false, 0);
        x.take(0, 1);
        x.lend(1, 3, 1);
        x.sendCells(0, 1, 20, true, 0);
        x.sendCells(0, 1, 12, true, 0);
        x.sendCells(0, 1, 20, false, 0);
        x.count(1, 4, 52);
        x.draft(0, 12, true);
        x.item(0, 0, 1, true);
        x.reply(0, -4);
        x.count(0, 7, 1);
        x.draft(0, 12, true);
        x.reply(0, 0);
        x.count(1, 4, 64);
    }

    private static void oneWayCellsDoNotMatter() {
        Checked x = Checked.managed(2, "oneWayCellsDoNotMatter");
        x.serve(1, 3, true);
        x.lend(1, 3, 1);
        x.sendCells(0, 1, 20, true, 0);
        x.sendCells(0, 1, 12, true, 0);
        x.send(1, 0, false, 0);
        x.take(0, 1);
        x.draft(0, 5, true);
        x.reply(0, 0);
        x.count(1, 4, 37);
        x.count(1, 5, 32);
    }

    private static void fullHandles() {
        Checked x = Checked.managed(3, "fullHandles");
        for (int key = 0; key < 10; key++) {
            x.serve(0, key, key != 0);
            x.serve(2, key, true);
        }
        for (int key = 0; key < 6; key++) {
            x.lend(2, key, key + 1);
        }
        for (int key = 0; key < 10; key++) {
            answerWith(x, 1, key, 0);
        }
        for (int handle = 1; handle <= 5; handle++) {
            answerWith(x, 2, handle, 0);
        }
        x.count(1, 0, 15);
        answerWith(x, 2, 6, -4);
        x.count(0, 2, 1);
        x.drop(1, 4, true, true);
        x.reply(0, 0);
        x.handleIs(1, 4, 1, 0, 2, 5, 0);
    }

    /** Process 1 calls the manager, process 0 replies with one item; when it could, 1 takes the reply. */
    private static void answerWith(Checked x, int kind, int value, int want) {
        x.send(1, 0, false, 0);
        x.take(0, 1);
        int at = x.latestAt(0);
        x.item(0, kind, value, true);
        x.reply(0, want);
        x.free(0, at, true);
        if (want == 0) {
            x.take(1, 3);
        }
    }

    private static void afterFree() {
        Checked x = Checked.managed(2, "afterFree");
        x.send(1, 0, false, 0);
        x.take(0, 1);
        x.free(0, 0, true);
        x.count(0, 2, 1);
        x.reply(0, 0);
        x.take(1, 3);
    }
}
