/** Promises 12 and 13: free, read. */
public final class BufferTest {
    public static void main(String[] args) {
        onlyTaken();
        wrongPlaces();
        handlesLose();
        nodeHeldTwice();
        nothingToLose();
        heldByNodeNotByNumber();
        strongAgain();
        nextOneWay();
        waitingAgain();
        readItems();
        readAsItCame();
        Checked.end();
    }

    private static void onlyTaken() {
        Checked x = Checked.managed(3, "onlyTaken");
        x.sendCells(1, 0, 3, true, 0);
        x.sendCells(1, 0, 4, true, 0);
        x.sendCells(2, 0, 5, false, 0);
        int[] all = {0, 3, 7};
        for (int at : all) {
            x.free(0, at, false);
            x.readFails(0, at, 0, 2);
        }
        x.take(0, 2);
        x.read(0, 0, 0, 2, 3);
        x.free(0, 3, false);
        x.free(0, 7, false);
        x.readFails(0, 3, 0, 2);
        x.free(0, 0, true);
        x.free(0, 0, false);
        x.readFails(0, 0, 0, 2);
        x.take(0, 1);
        x.free(0, 3, false);
        x.free(0, 7, true);
        x.take(0, 2);
        x.read(0, 3, 0, 2, 4);
        x.free(0, 3, true);
        x.count(0, 4, 0);
        x.reply(0, 0);
        x.free(2, 0, false);
        x.readFails(2, 0, 0, 2);
        x.take(2, 3);
        x.read(2, 0, 0, 2, 1);
        x.free(2, 0, true);
    }

    private static void wrongPlaces() {
        Checked x = Checked.managed(2, "wrongPlaces");
        x.draft(1, 3, true);
        x.item(1, 0, 7, true);
        x.send(1, 0, false, 0);
        x.take(0, 1);
        int[] wrong = {-1, 1, 2, 3, 4, 63, 64, Integer.MIN_VALUE, Integer.MAX_VALUE};
        for (int at : wrong) {
            x.free(0, at, false);
            x.readFails(0, at, 0, 0);
            x.readFails(0, at, 0, 2);
        }
        x.free(1, 0, false);
        x.count(0, 4, 4);
        x.free(0, 0, true);
    }

    private static void handlesLose() {
        Checked x = Checked.managed(2, "handlesLose");
        x.serve(1, 5, true);
        x.serve(1, 6, true);
        x.item(1, 1, 5, true);
        x.item(1, 1, 6, true);
        x.item(1, 2, 0, true);
        x.item(1, 0, 2, true);
        x.send(1, 0, false, 0);
        x.take(0, 1);
        x.hold(0, 2, true, true);
        x.free(0, 0, true);
        x.noHandle(0, 1);
        x.handleIs(0, 2, 1, 0, 1, 6, 0);
        x.count(0, 0, 1);
    }

    private static void nodeHeldTwice() {
        Checked x = Checked.managed(2, "nodeHeldTwice");
        x.serve(1, 5, true);
        x.item(1, 1, 5, true);
        x.item(1, 1, 5, true);
        x.item(1, 1, 5, true);
        x.send(1, 0, false, 0);
        x.take(0, 1);
        x.handle(0, 1, 0, 3);
        x.hold(0, 1, true, true);
        x.free(0, 0, true);
        x.handleIs(0, 1, 1, 0, 1, 5, 0);
    }

    private static void nothingToLose() {
        Checked x = Checked.managed(2, "nothingToLose");
        x.serve(1, 5, true);
        x.item(1, 1, 5, true);
        x.item(1, 1, 5, true);
        x.send(1, 0, false, 0);
        x.take(0, 1);
        x.hold(0, 1, false, true);
        x.drop(0, 1, true, true);
        x.drop(0, 1, true, true);
        x.drop(0, 1, true, false);
        x.free(0, 0, true);
        x.handleIs(0, 1, 0, 1, 1, 5, 0);
        x.drop(0, 1, false, true);
        x.count(0, 0, 0);
    }

    private static void heldByNodeNotByNumber() {
        Checked x = Checked.managed(2, "heldByNodeNotByNumber");
        x.serve(1, 5, true);
        x.serve(1, 6, true);
        x.item(1, 1, 5, true);
        x.send(1, 0, false, 0);
        x.take(0, 1);
        x.drop(0, 1, true, true);
        x.lend(1, 6, 1);
        x.free(0, 0, true);
        x.handleIs(0, 1, 1, 0, 1, 6, 0);

        Checked y = Checked.managed(2, "heldByNodeNotByNumber, another number");
        y.serve(1, 5, true);
        y.serve(1, 6, true);
        y.item(1, 1, 5, true);
        y.send(1, 0, false, 0);
        y.take(0, 1);
        y.drop(0, 1, true, true);
        y.lend(1, 6, 1);
        y.lend(1, 5, 2);
        y.hold(0, 2, true, true);
        y.free(0, 0, true);
        y.handleIs(0, 1, 1, 0, 1, 6, 0);
        y.handleIs(0, 2, 1, 0, 1, 5, 0);
    }

    private static void strongAgain() {
        Checked x = Checked.managed(2, "strongAgain");
        x.serve(1, 5, true);
        x.lend(1, 5, 1);
        x.hold(0, 1, false, true);
        x.drop(0, 1, true, true);
        x.handleIs(0, 1, 0, 1, 1, 5, 0);
        x.item(1, 1, 5, true);
        x.send(1, 0, false, 0);
        x.handleIs(0, 1, 1, 1, 1, 5, 0);
        x.count(0, 0, 1);
        x.take(0, 1);
        x.free(0, 0, true);
        x.handleIs(0, 1, 0, 1, 1, 5, 0);
    }

    private static void nextOneWay() {
        Checked x = Checked.managed(3, "nextOneWay");
        x.sendCells(1, 0, 2, true, 0);
        x.sendCells(1, 0, 3, true, 0);
        x.take(0, 2);
        for (int n = 0; n < 12; n++) {
            x.send(2, 0, false, 0);
            x.reborn(2);
        }
        x.count(0, 1, 12);
        x.free(0, 0, true);
        x.count(0, 1, 13);
        x.count(0, 5, 3);
        for (int n = 0; n < 12; n++) {
            x.take(0, 1);
        }
        x.takes(0, 2, 0, 2, 1, 0);
        x.free(0, 2, true);
        x.count(0, 1, 0);
        x.count(0, 5, 0);
        x.count(0, 4, 12);
    }

    private static void waitingAgain() {
        Checked x = Checked.managed(2, "waitingAgain");
        x.sendCells(1, 0, 1, true, 0);
        x.sendCells(1, 0, 2, true, 0);
        x.takes(0, 2, 0, 0, 1, 0);
        x.free(0, 0, true);
        x.takes(0, 2, 0, 1, 1, 0);
        x.sendCells(1, 0, 3, true, 0);
        x.sendCells(1, 0, 4, true, 0);
        x.take(0, 0);
        x.free(0, 1, true);
        x.takes(0, 2, 0, 3, 1, 0);
        x.free(0, 3, true);
        x.takes(0, 2, 0, 6, 1, 0);
        x.free(0, 6, true);
        x.take(0, 0);
        x.count(0, 4, 0);
    }

    private static void readItems() {
        Checked x = Checked.managed(2, "readItems");
        x.serve(1, 5, true);
        x.draft(1, 2, true);
        x.item(1, 1, 5, true);
        x.item(1, 0, -7, true);
        x.item(1, 2, 0, true);
        x.send(1, 0, false, 0);
        x.take(0, 1);
        x.reads(0, 0, 0, 2, 1);
        x.reads(0, 0, 1, 0, -7);
        x.reads(0, 0, 2, 1, 0);
        int[] wrongItems = {-1, 3, 4, Integer.MIN_VALUE, Integer.MAX_VALUE};
        for (int k : wrongItems) {
            x.readFails(0, 0, k, 0);
            x.readFails(0, 0, k, 1);
            x.readFails(0, 0, k, 3);
            x.read(0, 0, k, 2, 5);
        }
        int[] wrongWhats = {-1, 3, Integer.MIN_VALUE, Integer.MAX_VALUE};
        for (int what : wrongWhats) {
            x.readFails(0, 0, 0, what);
        }
        x.read(0, 0, 0, 2, 5);
    }

    private static void readAsItCame() {
        Checked x = Checked.managed(2, "readAsItCame");
        x.serve(1, 5, true);
        x.item(1, 1, 5, true);
        x.send(1, 0, false, 0);
        x.take(0, 1);
        x.drop(0, 1, true, true);
        x.noHandle(0, 1);
        x.reads(0, 0, 0, 2, 1);
        x.die(1);
        x.reads(0, 0, 0, 2, 1);
    }
}
