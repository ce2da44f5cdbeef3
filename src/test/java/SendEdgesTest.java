/** Edges of promise 8: send. */
public final class SendEdgesTest {
    public static void main(String[] args) {
        noSuchHandle();
        noManager();
        strongIsZero();
        strongIsZeroBeforeDead();
        nodeIsDead();
        nodeIsDeadBeforeWaits();
        waitsAlready();
        waitsBeforeBadAndFull();
        waitsUntilReplyIsTaken();
        oneWayWhileItWaits();
        allInThisOrder();
        refusedCallDoesNotWait();
        toItselfByTheManager();
        oneWayToItself();
        replyToItself();
        oneWayWaitsBehindOneInTheInbox();
        oneWayWaitsBehindOneTaken();
        oneWayDoesNotWaitWhenFreed();
        oneWaysWaitInOrder();
        oneWaysWaitAgain();
        oneWaysWaitBehindTheRest();
        callsDoNotWait();
        oneWaysOfOtherNodesDoNotWait();
        bufferOfWaitingLiesInTheArea();
        handlesOfWaitingAreThere();
        newNodeHasNoQueue();
        Checked.end();
    }

    private static void sendBoth(Checked x, int p, int handle, int want) {
        x.send(p, handle, true, want);
        x.send(p, handle, false, want);
    }

    /** "-1 no such handle" */
    private static void noSuchHandle() {
        Checked x = Checked.managed(3, "noSuchHandle");
        x.lendNodes(15);
        x.send(0, 15, true, 0);
        x.drop(0, 15, true, true);
        int[] none = {15, 16, -1, Integer.MIN_VALUE, Integer.MAX_VALUE};
        for (int handle : none) {
            sendBoth(x, 0, handle, -1);
        }
        for (int handle = 1; handle <= 15; handle++) {
            sendBoth(x, 1, handle, -1);
        }
        x.send(0, 14, true, 0);
    }

    private static void noManager() {
        Checked x = Checked.with(2, "noManager");
        x.serve(0, 0, true);
        sendBoth(x, 0, 0, -1);
        sendBoth(x, 1, 0, -1);
        x.manage(0, 0, true);
        x.send(0, 0, true, 0);
        x.send(1, 0, true, 0);
        x.die(0);
        sendBoth(x, 1, 0, -1);
    }

    /** "or STRONG is 0" */
    private static void strongIsZero() {
        Checked x = Checked.managed(2, "strongIsZero");
        x.lendNodes(1);
        x.hold(0, 1, false, true);
        x.send(0, 1, true, 0);
        x.drop(0, 1, true, true);
        sendBoth(x, 0, 1, -1);
    }

    private static void strongIsZeroBeforeDead() {
        Checked x = Checked.managed(2, "strongIsZeroBeforeDead");
        x.lendNodes(1);
        x.hold(0, 1, false, true);
        x.die(1);
        sendBoth(x, 0, 1, -2);
        x.drop(0, 1, true, true);
        sendBoth(x, 0, 1, -1);
    }

    /** "-2 the node is dead" */
    private static void nodeIsDead() {
        Checked x = Checked.managed(2, "nodeIsDead");
        x.lendNodes(1);
        x.send(0, 1, true, 0);
        x.die(1);
        sendBoth(x, 0, 1, -2);
        x.born(1);
        sendBoth(x, 0, 1, -2);
        x.serve(1, 0, true);
        sendBoth(x, 0, 1, -2);
        x.hasNothing(1);
    }

    private static void nodeIsDeadBeforeWaits() {
        Checked x = Checked.managed(2, "nodeIsDeadBeforeWaits");
        x.lendNodes(1);
        x.send(0, 0, false, 0);
        x.send(0, 1, false, -5);
        x.die(1);
        x.send(0, 1, false, -2);
        x.item(0, 1, 9, true);
        sendBoth(x, 0, 1, -2);
    }

    /** "-5 p waits already" */
    private static void waitsAlready() {
        Checked x = Checked.managed(3, "waitsAlready");
        x.lendNodes(11);
        x.count(0, 3, 0);
        x.send(0, 1, false, 0);
        x.count(0, 3, 1);
        x.send(0, 1, false, -5);
        x.send(0, 11, false, -5);
        x.send(0, 0, false, -5);
        x.send(1, 0, false, 0);
        x.send(2, 0, false, 0);
    }

    private static void waitsBeforeBadAndFull() {
        Checked x = Checked.managed(4, "waitsBeforeBadAndFull");
        x.send(1, 0, false, 0);
        x.item(1, 1, 9, true);
        x.send(1, 0, false, -5);
        x.send(1, 0, true, -3);
        x.draft(1, 0, true);
        x.fillInbox(11);
        x.send(1, 0, false, -5);
        x.send(1, 0, true, -4);
    }

    private static void waitsUntilReplyIsTaken() {
        Checked x = Checked.managed(2, "waitsUntilReplyIsTaken");
        x.send(1, 0, false, 0);
        x.take(0, 1);
        x.send(1, 0, false, -5);
        x.reply(0, 0);
        x.send(1, 0, false, -5);
        x.count(1, 3, 1);
        x.take(1, 3);
        x.count(1, 3, 0);
        x.send(1, 0, false, 0);
    }

    /** "(not for one-way)" */
    private static void oneWayWhileItWaits() {
        Checked x = Checked.managed(2, "oneWayWhileItWaits");
        x.send(1, 0, true, 0);
        x.count(1, 3, 0);
        x.send(1, 0, false, 0);
        x.send(1, 0, true, 0);
        x.count(1, 3, 1);
        x.count(0, 5, 2);
    }

    /** "the first of these, in this order" */
    private static void allInThisOrder() {
        Checked x = Checked.managed(4, "allInThisOrder");
        x.lendNodes(1);
        x.hold(0, 1, false, true);
        x.drop(0, 1, true, true);
        x.send(0, 0, false, 0);
        x.fillInbox(11);
        x.die(1);
        x.item(0, 1, 9, true);
        x.send(0, 1, false, -1);
        x.send(0, 0, false, -5);
        x.send(0, 0, true, -3);
        x.draft(0, 0, true);
        x.send(0, 0, false, -5);
        x.send(0, 0, true, -4);
        x.take(0, 1);
        x.send(0, 0, false, -5);
        x.send(0, 0, true, 0);
    }

    private static void refusedCallDoesNotWait() {
        Checked x = Checked.managed(4, "refusedCallDoesNotWait");
        x.item(1, 1, 9, true);
        x.send(1, 7, false, -1);
        x.count(1, 3, 0);
        x.send(1, 0, false, -3);
        x.count(1, 3, 0);
        x.draft(1, 0, true);
        x.fillInbox(12);
        x.send(1, 0, false, -4);
        x.count(1, 3, 0);
        x.take(0, 1);
        x.send(1, 0, false, 0);
        x.count(1, 3, 1);
    }

    /** "(perhaps p's own, by the MANAGER)" */
    private static void toItselfByTheManager() {
        Checked x = Checked.managed(4, "toItselfByTheManager");
        x.lendNodes(2);
        x.draft(0, 1, true);
        x.item(0, 1, 0, true);
        x.item(0, 2, 2, true);
        x.item(0, 2, 0, true);
        x.send(0, 0, false, 0);
        x.count(0, 3, 1);
        x.count(0, 4, 4);
        x.takes(0, 1, 0, 0, 0, 0);
        x.reads(0, 0, 0, 1, 0);
        x.reads(0, 0, 1, 2, 2);
        x.reads(0, 0, 2, 1, 0);
        x.handleIs(0, 2, 2, 0, 1, 1, 0);
        x.count(0, 0, 2);
        x.free(0, 0, true);
        x.handle(0, 2, 0, 1);
        x.lay(20, 20, 20);
        x.sendCells(0, 0, 5, true, -4);
        x.sendCells(0, 0, 4, true, 0);
    }

    private static void oneWayToItself() {
        Checked x = Checked.managed(1, "oneWayToItself");
        x.sendCells(0, 0, 2, true, 0);
        x.sendCells(0, 0, 3, true, 0);
        x.count(0, 3, 0);
        x.count(0, 1, 1);
        x.takes(0, 2, 0, 0, 0, 0);
        x.take(0, 0);
        x.free(0, 0, true);
        x.takes(0, 2, 0, 2, 0, 0);
    }

    private static void replyToItself() {
        Checked x = Checked.managed(4, "replyToItself");
        x.send(0, 0, false, 0);
        x.take(0, 1);
        x.fillInbox(12);
        x.reply(0, -4);
        x.take(0, 1);
        x.reply(0, -2);
        x.reply(0, 0);
        x.count(0, 2, 0);
        x.count(0, 3, 1);
        for (int n = 0; n < 11; n++) {
            x.take(0, 1);
        }
        x.takes(0, 3, -1, 13, 0, 0);
        x.count(0, 3, 0);
    }

    /** "if a one-way message of that node came before whose buffer is not freed, it waits" */
    private static void oneWayWaitsBehindOneInTheInbox() {
        Checked x = Checked.managed(3, "oneWayWaitsBehindOneInTheInbox");
        x.send(1, 0, true, 0);
        x.send(2, 0, true, 0);
        x.count(0, 1, 1);
        x.count(0, 5, 2);
        x.free(0, 0, false);
        x.free(0, 1, false);
        x.take(0, 2);
        x.take(0, 0);
    }

    private static void oneWayWaitsBehindOneTaken() {
        Checked x = Checked.managed(3, "oneWayWaitsBehindOneTaken");
        x.send(1, 0, true, 0);
        x.take(0, 2);
        x.sendCells(2, 0, 7, true, 0);
        x.count(0, 1, 0);
        x.count(0, 5, 8);
        x.take(0, 0);
        x.free(0, 1, false);
        x.free(0, 0, true);
        x.takes(0, 2, 0, 1, 2, 0);
    }

    private static void oneWayDoesNotWaitWhenFreed() {
        Checked x = Checked.managed(3, "oneWayDoesNotWaitWhenFreed");
        for (int n = 0; n < 3; n++) {
            x.send(1, 0, true, 0);
            x.takes(0, 2, 0, 0, 1, 0);
            x.free(0, 0, true);
            x.count(0, 1, 0);
        }
        x.send(2, 0, true, 0);
        x.count(0, 1, 1);
    }

    /** "it waits for its turn at the node, behind others" */
    private static void oneWaysWaitInOrder() {
        Checked x = Checked.managed(4, "oneWaysWaitInOrder");
        int[] senders = {1, 3, 2, 3, 0, 1};
        int at = 0;
        for (int n = 0; n < senders.length; n++) {
            x.sendCells(senders[n], 0, n + 1, true, 0);
        }
        x.count(0, 5, 21);
        for (int n = 0; n < senders.length; n++) {
            x.count(0, 1, 1);
            x.takes(0, 2, 0, at, senders[n], 0);
            x.take(0, 0);
            x.free(0, at, true);
            at += n + 1;
        }
        x.count(0, 1, 0);
        x.count(0, 5, 0);
    }

    private static void oneWaysWaitAgain() {
        Checked x = Checked.managed(2, "oneWaysWaitAgain");
        x.send(1, 0, true, 0);
        for (int n = 0; n < 4; n++) {
            x.send(1, 0, true, 0);
            x.count(0, 1, 1);
            x.takes(0, 2, 0, n % 2, 1, 0);
            x.take(0, 0);
            x.free(0, n % 2, true);
            x.count(0, 1, 1);
        }
    }

    private static void oneWaysWaitBehindTheRest() {
        Checked x = Checked.managed(3, "oneWaysWaitBehindTheRest");
        for (int cells = 1; cells <= 3; cells++) {
            x.sendCells(1, 0, cells, true, 0);
        }
        x.take(0, 2);
        x.free(0, 0, true);
        x.sendCells(2, 0, 4, true, 0);
        x.takes(0, 2, 0, 1, 1, 0);
        x.free(0, 1, true);
        x.takes(0, 2, 0, 3, 1, 0);
        x.sendCells(2, 0, 5, true, 0);
        x.free(0, 3, true);
        x.takes(0, 2, 0, 6, 2, 0);
        x.free(0, 6, true);
        x.take(0, 2);
        x.read(0, x.latestAt(0), 0, 2, 5);
        x.count(0, 5, 5);
    }

    private static void callsDoNotWait() {
        Checked x = Checked.managed(3, "callsDoNotWait");
        x.send(1, 0, true, 0);
        x.send(1, 0, true, 0);
        x.send(1, 0, false, 0);
        x.send(2, 0, false, 0);
        x.count(0, 1, 3);
        x.take(0, 2);
        x.takes(0, 1, 0, 2, 1, 0);
        x.takes(0, 1, 0, 3, 2, 0);
        x.free(0, 2, true);
        x.send(2, 0, true, 0);
        x.count(0, 1, 0);
    }

    private static void oneWaysOfOtherNodesDoNotWait() {
        Checked x = Checked.managed(3, "oneWaysOfOtherNodesDoNotWait");
        x.lendNodes(2);
        x.send(0, 1, true, 0);
        x.send(0, 2, true, 0);
        x.count(1, 1, 2);
        x.send(0, 1, true, 0);
        x.send(0, 2, true, 0);
        x.count(1, 1, 2);
        x.takes(1, 2, 0, 0, 0, 0);
        x.takes(1, 2, 1, 1, 0, 0);
        x.free(1, 1, true);
        x.takes(1, 2, 1, 3, 0, 0);
        x.free(1, 3, true);
        x.take(1, 0);
        x.free(1, 0, true);
        x.takes(1, 2, 0, 2, 0, 0);
    }

    /** "(its buffer lies in the area all the same)" */
    private static void bufferOfWaitingLiesInTheArea() {
        Checked x = Checked.managed(4, "bufferOfWaitingLiesInTheArea");
        x.sendCells(1, 0, 4, true, 0);
        x.sendCells(1, 0, 6, true, 0);
        x.count(0, 4, 10);
        x.sendCells(2, 0, 5, false, 0);
        x.take(0, 2);
        x.takes(0, 1, 0, 10, 2, 0);
        x.readFails(0, 4, 0, 2);
        x.free(0, 4, false);
        x.lay(20, 20);
        x.sendCells(1, 0, 10, false, -4);
        x.sendCells(1, 0, 9, false, 0);
        x.count(0, 4, 64);
    }

    private static void handlesOfWaitingAreThere() {
        Checked x = Checked.managed(2, "handlesOfWaitingAreThere");
        x.serve(1, 3, true);
        x.send(1, 0, true, 0);
        x.item(1, 1, 3, true);
        x.send(1, 0, true, 0);
        x.handleIs(0, 1, 1, 0, 1, 3, 0);
        x.take(0, 2);
        x.free(0, 0, true);
        x.take(0, 2);
        x.handle(0, 1, 0, 1);
        x.free(0, 1, true);
        x.noHandle(0, 1);
    }

    private static void newNodeHasNoQueue() {
        Checked x = Checked.managed(2, "newNodeHasNoQueue");
        x.send(1, 0, true, 0);
        x.send(1, 0, true, 0);
        x.reborn(0);
        x.serve(0, 0, true);
        x.manage(0, 0, true);
        x.send(1, 0, true, 0);
        x.count(0, 1, 1);
        x.take(0, 2);
        x.free(0, 0, true);
        x.count(0, 1, 0);
        x.count(0, 5, 0);
    }
}
