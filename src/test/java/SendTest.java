/** Promise 8: send, and how a message goes into the receiver's area. */
public final class SendTest {
    public static void main(String[] args) {
        noHandle();
        weakHandle();
        deadNode();
        waiting();
        bad();
        orderOfAnswers();
        fullInbox();
        fullArea();
        fullOneWay();
        fullHandles();
        sameNodeTwiceNeedsOneHandle();
        nothingIsChanged();
        gaps();
        nodesBecomeHandlesOrOwn();
        managerAsItem();
        deadNodesTravel();
        oldNodeOfReceiver();
        toItself();
        oneWaysInTurn();
        oneWaysOfNodesAreApart();
        Checked.end();
    }

    private static void noHandle() {
        Checked x = Checked.with(2, "noHandle");
        x.serve(0, 0, true);
        int[] none = {0, 1, 15, 16, -1, Integer.MIN_VALUE, Integer.MAX_VALUE};
        for (int handle : none) {
            x.send(1, handle, true, -1);
            x.send(1, handle, false, -1);
        }
        x.count(1, 3, 0);
    }

    private static void weakHandle() {
        Checked x = Checked.managed(2, "weakHandle");
        x.serve(1, 4, true);
        x.lend(1, 4, 1);
        x.hold(0, 1, false, true);
        x.send(0, 1, true, 0);
        x.drop(0, 1, true, true);
        x.send(0, 1, true, -1);
        x.die(1);
        x.send(0, 1, true, -1);
        x.item(0, 2, 1, true);
        x.send(0, 0, true, -3);
    }

    private static void deadNode() {
        Checked x = Checked.managed(2, "deadNode");
        x.serve(1, 4, true);
        x.lend(1, 4, 1);
        x.die(1);
        x.send(0, 1, true, -2);
        x.send(0, 1, false, -2);
        x.born(1);
        x.serve(1, 4, true);
        x.send(0, 1, true, -2);
        x.count(0, 3, 0);
        x.lend(1, 4, 2);
        x.send(0, 2, true, 0);
    }

    private static void waiting() {
        Checked x = Checked.managed(2, "waiting");
        x.send(1, 0, false, 0);
        x.count(1, 3, 1);
        x.send(1, 0, false, -5);
        x.send(1, 0, true, 0);
        x.take(0, 1);
        x.send(1, 0, false, -5);
        x.reply(0, 0);
        x.send(1, 0, false, -5);
        x.take(1, 3);
        x.send(1, 0, false, 0);
    }

    private static void bad() {
        Checked x = Checked.managed(2, "bad");
        x.serve(0, 3, true);
        int[] keys = {3, -1, 10, Integer.MIN_VALUE, Integer.MAX_VALUE};
        for (int key : keys) {
            x.draft(1, 0, true);
            x.item(1, 0, 5, true);
            x.item(1, 1, key, true);
            x.send(1, 0, true, -3);
        }
        int[] handles = {1, 15, 16, -1, Integer.MIN_VALUE, Integer.MAX_VALUE};
        for (int handle : handles) {
            x.draft(1, 0, true);
            x.item(1, 2, 0, true);
            x.item(1, 2, handle, true);
            x.send(1, 0, false, -3);
        }
        x.count(1, 3, 0);
        x.count(0, 1, 0);
        x.count(0, 4, 0);
    }

    private static void orderOfAnswers() {
        Checked x = Checked.managed(3, "orderOfAnswers");
        x.serve(2, 4, true);
        x.lend(2, 4, 1);
        x.send(0, 0, false, 0);
        x.die(2);
        x.send(0, 2, false, -1);
        x.send(0, 1, false, -2);
        x.item(0, 2, 9, true);
        x.send(0, 0, false, -5);
        x.sendCells(1, 0, 20, true, 0);
        x.draft(0, 20, true);
        x.item(0, 2, 9, true);
        x.send(0, 0, false, -5);
        x.send(0, 0, true, -3);
        x.draft(0, 20, true);
        x.send(0, 0, true, -4);
        x.send(0, 0, false, -5);
    }

    private static void fullInbox() {
        Checked x = Checked.managed(3, "fullInbox");
        x.serve(0, 1, true);
        x.item(0, 1, 1, true);
        x.send(0, 0, true, 0);
        x.take(0, 2);
        fillInbox(x);
        x.count(0, 1, 12);
        x.send(1, 0, false, -4);
        x.count(1, 3, 0);
        x.send(1, 0, true, 0);
        x.count(0, 1, 12);
        x.free(0, 0, true);
        x.count(0, 1, 13);
        x.send(1, 0, true, 0);
        x.take(0, 1);
        x.count(0, 1, 12);
        x.send(1, 0, false, -4);
        x.take(0, 1);
        x.send(1, 0, false, 0);
        x.count(0, 1, 12);

        Checked y = Checked.managed(3, "fullInbox, one-way in no need to wait");
        fillInbox(y);
        y.send(1, 0, true, -4);
        y.take(0, 1);
        y.send(1, 0, true, 0);
    }

    /** Twelve calls of one cell lie in the inbox of process 0. */
    private static void fillInbox(Checked x) {
        for (int n = 0; n < 12; n++) {
            x.send(2, 0, false, 0);
            x.reborn(2);
        }
    }

    private static void fullArea() {
        Checked x = Checked.managed(4, "fullArea");
        x.sendCells(0, 0, 20, false, 0);
        x.sendCells(1, 0, 20, false, 0);
        x.sendCells(2, 0, 20, false, 0);
        x.draft(3, 4, true);
        x.item(3, 0, 0, true);
        x.send(3, 0, false, -4);
        x.send(3, 0, true, -4);
        x.draft(3, 3, true);
        x.item(3, 0, 0, true);
        x.send(3, 0, false, 0);
        x.count(0, 4, 64);
        x.draft(3, 0, true);
        x.send(3, 0, true, -4);
        x.take(0, 1);
        x.free(0, 0, true);
        x.send(3, 0, true, 0);
    }

    private static void fullOneWay() {
        Checked x = Checked.managed(2, "fullOneWay");
        x.serve(0, 1, true);
        x.sendCells(1, 0, 20, true, 0);
        x.sendCells(1, 0, 13, true, -4);
        x.sendCells(1, 0, 13, false, 0);
        x.sendCells(1, 0, 12, true, 0);
        x.count(0, 5, 32);
        x.count(0, 4, 45);
        x.draft(1, 0, true);
        x.send(1, 0, true, -4);
        x.take(0, 2);
        x.send(1, 0, true, -4);
        x.free(0, 0, true);
        x.count(0, 5, 12);
        x.send(1, 0, true, 0);
        x.count(0, 5, 13);
    }

    private static void fullHandles() {
        Checked x = Checked.managed(3, "fullHandles");
        for (int key = 0; key < 10; key++) {
            x.serve(1, key, true);
            x.serve(2, key, true);
        }
        for (int key = 0; key < 10; key++) {
            x.lend(1, key, key + 1);
        }
        for (int key = 0; key < 4; key++) {
            x.lend(2, key, key + 11);
        }
        x.count(0, 0, 14);
        x.item(2, 1, 4, true);
        x.item(2, 1, 5, true);
        x.send(2, 0, false, -4);
        x.send(2, 0, true, -4);
        x.count(0, 0, 14);
        x.draft(2, 0, true);
        x.item(2, 1, 4, true);
        x.item(2, 1, 3, true);
        x.item(2, 1, 4, true);
        x.send(2, 0, false, 0);
        x.count(0, 0, 15);
        x.handleIs(0, 15, 2, 0, 2, 4, 0);
        x.handleIs(0, 14, 2, 0, 2, 3, 0);
        x.item(2, 1, 5, true);
        x.send(2, 0, true, -4);
        x.drop(0, 7, true, true);
        x.send(2, 0, true, 0);
        x.handleIs(0, 7, 1, 0, 2, 5, 0);
        x.item(2, 0, 5, true);
        x.item(2, 2, 0, true);
        x.send(2, 0, true, 0);
    }

    private static void sameNodeTwiceNeedsOneHandle() {
        Checked x = Checked.managed(2, "sameNodeTwiceNeedsOneHandle");
        x.serve(1, 8, true);
        x.serve(1, 9, true);
        x.item(1, 1, 9, true);
        x.item(1, 1, 8, true);
        x.item(1, 1, 9, true);
        x.send(1, 0, false, 0);
        x.take(0, 1);
        x.reads(0, 0, 0, 2, 1);
        x.reads(0, 0, 1, 2, 2);
        x.reads(0, 0, 2, 2, 1);
        x.handleIs(0, 1, 2, 0, 1, 9, 0);
        x.handleIs(0, 2, 1, 0, 1, 8, 0);
        x.count(0, 0, 2);
        x.free(0, 0, true);
        x.count(0, 0, 0);
    }

    private static void nothingIsChanged() {
        Checked x = Checked.managed(2, "nothingIsChanged");
        x.serve(1, 8, true);
        x.sendCells(1, 0, 20, true, 0);
        x.draft(1, 11, true);
        x.item(1, 1, 8, true);
        x.item(1, 0, 8, true);
        x.send(1, 0, true, -4);
        x.count(0, 0, 0);
        x.count(0, 1, 1);
        x.count(0, 4, 20);
        x.count(0, 5, 20);
        x.count(1, 7, 2);
        x.send(1, 0, false, 0);
        x.count(0, 4, 33);
        x.handleIs(0, 1, 1, 0, 1, 8, 0);
    }

    private static void gaps() {
        Checked x = Checked.managed(3, "gaps");
        for (int key = 1; key < 9; key++) {
            x.serve(0, key, true);
        }
        int[] cells = {6, 1, 4, 1, 4, 1, 7, 1};
        int[] at = {0, 6, 7, 11, 12, 16, 17, 24};
        for (int n = 0; n < cells.length; n++) {
            x.sendCells(2, 0, cells[n], false, 0);
            x.takes(0, 1, 0, at[n], 2, 0);
            x.reborn(2);
        }
        x.count(0, 4, 25);
        x.free(0, 0, true);
        x.free(0, 12, true);
        x.free(0, 7, true);
        x.free(0, 17, true);
        place(x, 5, 0, true);
        place(x, 7, 17, true);
        place(x, 8, 25, true);
        place(x, 3, 7, false);
        place(x, 1, 10, false);
        place(x, 4, 12, false);
        x.free(0, 6, true);
        x.free(0, 11, true);
        place(x, 2, 0, false);
        x.free(0, 7, true);
        place(x, 4, 17, false);
        x.free(0, 10, true);
        place(x, 5, 2, false);
    }

    /** A call of so many cells is put there; it is freed again if that is asked for. */
    private static void place(Checked x, int cells, int at, boolean andFree) {
        x.sendCells(1, 0, cells, false, 0);
        x.takes(0, 1, 0, at, 1, 0);
        x.reply(0, 0);
        x.take(1, 3);
        x.free(1, 0, true);
        if (andFree) {
            x.free(0, at, true);
        }
    }

    private static void nodesBecomeHandlesOrOwn() {
        Checked x = Checked.managed(3, "nodesBecomeHandlesOrOwn");
        x.serve(1, 6, true);
        x.serve(2, 6, true);
        x.lend(1, 6, 1);
        x.lend(2, 6, 2);
        x.lend(1, 6, 1);
        x.handleIs(0, 1, 2, 0, 1, 6, 0);
        x.serve(0, 9, true);
        x.item(0, 2, 1, true);
        x.item(0, 2, 2, true);
        x.item(0, 1, 9, true);
        x.item(0, 0, 2, true);
        x.send(0, 2, true, 0);
        x.takes(2, 2, 6, 0, 0, 0);
        x.reads(2, 0, 0, 2, 1);
        x.reads(2, 0, 1, 1, 6);
        x.reads(2, 0, 2, 2, 2);
        x.reads(2, 0, 3, 0, 2);
        x.handleIs(2, 1, 1, 0, 1, 6, 0);
        x.handleIs(2, 2, 1, 0, 0, 9, 0);
        x.count(2, 0, 2);
        x.handleIs(0, 1, 2, 0, 1, 6, 0);
        x.drop(2, 1, true, true);
        x.item(0, 1, 0, true);
        x.item(0, 1, 9, true);
        x.send(0, 2, false, 0);
        x.handleIs(2, 1, 1, 0, 0, 0, 0);
        x.handleIs(2, 2, 2, 0, 0, 9, 0);
    }

    private static void managerAsItem() {
        Checked x = Checked.managed(3, "managerAsItem");
        x.serve(1, 6, true);
        x.item(1, 2, 0, true);
        x.send(1, 0, true, 0);
        x.take(0, 2);
        x.reads(0, 0, 0, 1, 0);
        x.count(0, 0, 0);
        x.free(0, 0, true);
        x.lend(1, 6, 1);
        x.item(0, 2, 0, true);
        x.send(0, 1, true, 0);
        x.take(1, 2);
        x.reads(1, 0, 0, 2, 1);
        x.handleIs(1, 1, 1, 0, 0, 0, 0);
        x.send(1, 1, false, 0);
        x.takes(0, 1, 0, 0, 1, 0);
        x.item(1, 2, 0, true);
        x.die(0);
        x.send(1, 1, true, -2);
        x.send(1, 0, true, -1);
        x.serve(2, 1, true);
        x.manage(2, 1, true);
        x.send(1, 0, true, 0);
        x.take(2, 2);
        x.reads(2, 0, 0, 1, 1);
    }

    private static void deadNodesTravel() {
        Checked x = Checked.managed(3, "deadNodesTravel");
        x.serve(1, 6, true);
        x.serve(2, 6, true);
        x.lend(1, 6, 1);
        x.lend(2, 6, 2);
        x.die(1);
        x.item(0, 2, 1, true);
        x.send(0, 2, true, 0);
        x.take(2, 2);
        x.reads(2, 0, 0, 2, 1);
        x.handleIs(2, 1, 1, 0, 1, 6, 1);
    }

    private static void oldNodeOfReceiver() {
        Checked x = Checked.managed(2, "oldNodeOfReceiver");
        x.serve(1, 6, true);
        x.lend(1, 6, 1);
        x.reborn(1);
        x.serve(1, 6, true);
        x.lend(1, 6, 2);
        x.item(0, 2, 1, true);
        x.item(0, 2, 2, true);
        x.send(0, 2, true, 0);
        x.take(1, 2);
        x.reads(1, 0, 0, 2, 1);
        x.reads(1, 0, 1, 1, 6);
        x.handleIs(1, 1, 1, 0, 1, 6, 1);
        x.send(1, 1, true, -2);
        x.watch(1, 1, 3, true);
        x.takes(1, 4, -1, -1, -1, 3);
    }

    private static void toItself() {
        Checked x = Checked.managed(2, "toItself");
        x.serve(1, 6, true);
        x.lend(1, 6, 1);
        x.draft(0, 2, true);
        x.item(0, 2, 1, true);
        x.item(0, 1, 0, true);
        x.item(0, 2, 0, true);
        x.send(0, 0, false, 0);
        x.count(0, 3, 1);
        x.count(0, 7, 0);
        x.takes(0, 1, 0, 0, 0, 0);
        x.reads(0, 0, 0, 2, 1);
        x.reads(0, 0, 1, 1, 0);
        x.reads(0, 0, 2, 1, 0);
        x.handleIs(0, 1, 2, 0, 1, 6, 0);
        x.item(0, 2, 1, true);
        x.reply(0, 0);
        x.takes(0, 3, -1, 5, 0, 0);
        x.reads(0, 5, 0, 2, 1);
        x.handleIs(0, 1, 3, 0, 1, 6, 0);
        x.count(0, 3, 0);
    }

    private static void oneWaysInTurn() {
        Checked x = Checked.managed(3, "oneWaysInTurn");
        x.sendCells(1, 0, 1, true, 0);
        x.sendCells(2, 0, 2, true, 0);
        x.sendCells(1, 0, 3, true, 0);
        x.count(0, 1, 1);
        x.count(0, 5, 6);
        x.takes(0, 2, 0, 0, 1, 0);
        x.take(0, 0);
        x.sendCells(2, 0, 4, true, 0);
        x.count(0, 1, 0);
        x.sendCells(2, 0, 5, false, 0);
        x.free(0, 0, true);
        x.takes(0, 1, 0, 10, 2, 0);
        x.takes(0, 2, 0, 1, 2, 0);
        x.free(0, 10, true);
        x.count(0, 1, 0);
        x.free(0, 1, true);
        x.takes(0, 2, 0, 3, 1, 0);
        x.free(0, 3, true);
        x.takes(0, 2, 0, 6, 2, 0);
        x.free(0, 6, true);
        x.count(0, 1, 0);
        x.sendCells(2, 0, 5, true, 0);
        x.count(0, 1, 1);
        x.takes(0, 2, 0, 0, 2, 0);
    }

    private static void oneWaysOfNodesAreApart() {
        Checked x = Checked.managed(2, "oneWaysOfNodesAreApart");
        x.serve(0, 5, true);
        x.serve(1, 1, true);
        x.lend(1, 1, 1);
        x.item(0, 1, 5, true);
        x.send(0, 1, true, 0);
        x.send(1, 0, true, 0);
        x.take(1, 2);
        x.send(1, 1, true, 0);
        x.send(1, 0, true, 0);
        x.send(1, 1, true, 0);
        x.count(0, 1, 2);
        x.takes(0, 2, 0, 0, 1, 0);
        x.takes(0, 2, 5, 1, 1, 0);
        x.free(0, 1, true);
        x.takes(0, 2, 5, 3, 1, 0);
        x.free(0, 3, true);
        x.count(0, 1, 0);
        x.free(0, 0, true);
        x.takes(0, 2, 0, 2, 1, 0);
    }
}
