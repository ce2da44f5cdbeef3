/** Edges of 'Terms': what of a message is BAD, what is FULL, and what becomes of its items and of the draft. */
public final class MessageEdgesTest {
    public static void main(String[] args) {
        badOwnKeys();
        badHandles();
        badInEveryPlace();
        zeroIsBadWithoutManager();
        zeroIsGoodWithManager();
        handleOfDeadNodeIsGood();
        badBeforeEveryFull();
        fullInbox();
        fullInboxOfDeaths();
        fullInboxOverTwelve();
        waitingOneWayDoesNotCareForTheInbox();
        waitingOneWayCaresForTheRest();
        fullOneWayCells();
        oneWayCellsCountWhereverTheyLie();
        fullHandles();
        severalNewHandles();
        nodesThatNeedNoNewHandle();
        numbersAsTheyAre();
        ownOfReceiverBecomesOwn();
        oldNodeOfReceiverBecomesHandle();
        leastNumberThatIsFree();
        countsOfNewHandleAreZero();
        weakHandleBecomesStrong();
        draftIsEmptyThen();
        draftStaysWhenNotDone();
        Checked.end();
    }

    private static void sendsBad(Checked x, int kind, int value) {
        x.draft(1, 3, true);
        x.item(1, kind, value, true);
        x.send(1, 0, true, -3);
        x.send(1, 0, false, -3);
    }

    /** "BAD: an OWN key is no node of p" */
    private static void badOwnKeys() {
        Checked x = Checked.managed(3, "badOwnKeys");
        x.serve(0, 4, true);
        x.serve(2, 4, true);
        x.serve(1, 5, true);
        x.reborn(1);
        x.serve(1, 0, true);
        x.serve(1, 9, true);
        int[] none = {4, 5, -1, 10, Integer.MIN_VALUE, Integer.MAX_VALUE};
        for (int key : none) {
            sendsBad(x, 1, key);
        }
        x.draft(1, 0, true);
        x.item(1, 1, 0, true);
        x.item(1, 1, 9, true);
        x.send(1, 0, false, 0);
    }

    /** "or a HANDLE none of p with STRONG above 0" */
    private static void badHandles() {
        Checked x = Checked.managed(3, "badHandles");
        x.lendNodes(3);
        x.hold(0, 2, false, true);
        x.drop(0, 2, true, true);
        x.drop(0, 3, true, true);
        int[] bad = {2, 3, 4, 15, 16, -1, Integer.MIN_VALUE, Integer.MAX_VALUE};
        for (int handle : bad) {
            x.draft(0, 0, true);
            x.item(0, 2, handle, true);
            x.send(0, 1, true, -3);
            x.send(0, 1, false, -3);
        }
        sendsBad(x, 2, 1);
        x.draft(0, 0, true);
        x.item(0, 2, 1, true);
        x.send(0, 1, true, 0);
    }

    private static void badInEveryPlace() {
        Checked x = Checked.managed(2, "badInEveryPlace");
        x.serve(1, 7, true);
        for (int place = 0; place < 4; place++) {
            x.draft(1, 0, true);
            for (int k = 0; k < 4; k++) {
                x.item(1, k % 2, k == place ? 8 : 7, true);
            }
            x.send(1, 0, true, place % 2 == 0 ? 0 : -3);
            x.draft(1, 0, true);
            for (int k = 0; k < 4; k++) {
                x.item(1, k == place ? 2 : k % 2, 7, true);
            }
            x.send(1, 0, true, -3);
        }
    }

    /** "(0 is, if there is a manager)" */
    private static void zeroIsBadWithoutManager() {
        Checked x = Checked.managed(3, "zeroIsBadWithoutManager");
        x.lendNodes(11);
        x.item(0, 2, 11, true);
        x.send(0, 1, true, 0);
        x.die(0);
        x.draft(1, 2, true);
        x.item(1, 2, 0, true);
        x.send(1, 1, true, -3);
        x.send(1, 1, false, -3);
        x.born(0);
        x.serve(0, 0, true);
        x.send(1, 1, true, -3);
        x.manage(0, 0, true);
        x.send(1, 1, true, 0);
        x.takes(2, 2, 0, 0, 1, 0);
        x.reads(2, 0, 0, 2, 1);
        x.handleIs(2, 1, 1, 0, 0, 0, 0);
    }

    private static void zeroIsGoodWithManager() {
        Checked x = Checked.managed(3, "zeroIsGoodWithManager");
        x.item(1, 2, 0, true);
        x.send(1, 0, true, 0);
        x.takes(0, 2, 0, 0, 1, 0);
        x.reads(0, 0, 0, 1, 0);
        x.free(0, 0, true);
        x.lendNodes(1);
        x.item(0, 2, 0, true);
        x.item(0, 1, 0, true);
        x.send(0, 1, true, 0);
        x.take(1, 2);
        x.reads(1, 0, 0, 2, 1);
        x.reads(1, 0, 1, 2, 1);
        x.handleIs(1, 1, 2, 0, 0, 0, 0);
        x.count(1, 0, 1);
    }

    private static void handleOfDeadNodeIsGood() {
        Checked x = Checked.managed(3, "handleOfDeadNodeIsGood");
        x.lendNodes(11);
        x.die(1);
        x.item(0, 2, 1, true);
        x.send(0, 11, true, 0);
        x.take(2, 2);
        x.reads(2, 0, 0, 2, 1);
        x.handleIs(2, 1, 1, 0, 1, 0, 1);
    }

    /** "the first of these is answered": BAD before FULL, whatever is full. */
    private static void badBeforeEveryFull() {
        Checked inbox = Checked.managed(4, "badBeforeEveryFull, inbox");
        inbox.fillInbox(12);
        badThenFull(inbox, 0, false);
        badThenFull(inbox, 0, true);

        Checked area = Checked.managed(4, "badBeforeEveryFull, area");
        area.lay(20, 20, 20);
        badThenFull(area, 4, false);
        badThenFull(area, 4, true);

        Checked oneWay = Checked.managed(4, "badBeforeEveryFull, one-way");
        oneWay.sendCells(1, 0, 20, true, 0);
        badThenFull(oneWay, 12, true);

        Checked handles = Checked.managed(3, "badBeforeEveryFull, handles");
        handles.lendNodes(15);
        handles.serve(2, 9, true);
        handles.item(2, 1, 9, true);
        handles.item(2, 1, 8, true);
        handles.send(2, 0, true, -3);
        handles.serve(2, 8, true);
        handles.send(2, 0, true, -4);
    }

    /** A draft of that size and an item more is BAD and FULL; when the item is a node it is FULL alone. */
    private static void badThenFull(Checked x, int size, boolean oneWay) {
        x.draft(1, size, true);
        x.item(1, 2, 1, true);
        x.send(1, 0, oneWay, -3);
        x.draft(1, size, true);
        x.item(1, 2, 0, true);
        x.send(1, 0, oneWay, -4);
    }

    /** "FULL: the inbox of q has 12" */
    private static void fullInbox() {
        Checked x = Checked.managed(4, "fullInbox");
        x.fillInbox(11);
        x.send(1, 0, true, 0);
        x.count(0, 1, 12);
        x.send(2, 0, false, -4);
        x.count(2, 3, 0);
        x.take(0, 1);
        x.send(2, 0, false, 0);
        x.count(0, 1, 12);
        x.count(2, 3, 1);

        Checked y = Checked.managed(4, "fullInbox, one-way");
        y.fillInbox(12);
        y.send(1, 0, true, -4);
        y.take(0, 1);
        y.send(1, 0, true, 0);
        y.count(0, 1, 12);
    }

    private static void fullInboxOfDeaths() {
        Checked x = Checked.managed(3, "fullInboxOfDeaths");
        x.lendNodes(1);
        x.die(1);
        for (int n = 0; n < 11; n++) {
            x.watch(0, 1, n, true);
        }
        x.send(2, 0, true, 0);
        x.send(2, 0, false, -4);
        x.take(0, 4);
        x.watch(0, 1, 11, true);
        x.count(0, 1, 12);
        x.send(2, 0, false, -4);
        x.take(0, 4);
        x.send(2, 0, false, 0);
    }

    private static void fullInboxOverTwelve() {
        Checked x = Checked.managed(4, "fullInboxOverTwelve");
        x.lendNodes(1);
        x.watch(0, 1, 5, true);
        x.watch(0, 1, 6, true);
        x.fillInbox(12);
        x.die(1);
        x.count(0, 1, 14);
        x.send(2, 0, false, -4);
        x.send(2, 0, true, -4);
        x.take(0, 1);
        x.send(2, 0, false, -4);
        x.take(0, 1);
        x.send(2, 0, true, -4);
        x.take(0, 1);
        x.send(2, 0, true, 0);
        x.count(0, 1, 12);
    }

    /** "(a one-way message that has to wait does not care)" */
    private static void waitingOneWayDoesNotCareForTheInbox() {
        Checked x = Checked.managed(4, "waitingOneWayDoesNotCareForTheInbox");
        x.send(1, 0, true, 0);
        x.fillInbox(11);
        x.count(0, 1, 12);
        x.send(2, 0, true, 0);
        x.count(0, 1, 12);
        x.count(0, 5, 2);
        x.takes(0, 2, 0, 0, 1, 0);
        x.fillInbox(1);
        x.send(2, 0, true, 0);
        x.free(0, 0, true);
        x.count(0, 1, 13);
        x.send(2, 0, true, 0);
        x.count(0, 1, 13);
        x.count(0, 5, 3);
    }

    private static void waitingOneWayCaresForTheRest() {
        Checked area = Checked.managed(4, "waitingOneWayCaresForTheRest, area");
        area.send(1, 0, true, 0);
        area.take(0, 2);
        area.lay(20, 20, 20);
        area.sendCells(1, 0, 4, true, -4);
        area.sendCells(1, 0, 3, true, 0);
        area.count(0, 1, 0);

        Checked oneWay = Checked.managed(4, "waitingOneWayCaresForTheRest, one-way");
        oneWay.sendCells(1, 0, 20, true, 0);
        oneWay.sendCells(1, 0, 13, true, -4);
        oneWay.sendCells(1, 0, 12, true, 0);
        oneWay.count(0, 1, 1);

        Checked handles = Checked.managed(3, "waitingOneWayCaresForTheRest, handles");
        handles.lendNodes(15);
        handles.send(1, 0, true, 0);
        handles.serve(2, 9, true);
        handles.item(2, 1, 9, true);
        handles.send(2, 0, true, -4);
        handles.drop(0, 3, true, true);
        handles.send(2, 0, true, 0);
        handles.handleIs(0, 3, 1, 0, 2, 9, 0);
        handles.count(0, 1, 1);
    }

    /** "one-way: the buffers of one-way messages in q's area would have more than 32 cells" */
    private static void fullOneWayCells() {
        Checked x = Checked.managed(4, "fullOneWayCells");
        x.serve(0, 1, true);
        x.sendCells(1, 0, 20, true, 0);
        x.draft(1, 9, true);
        for (int k = 0; k < 4; k++) {
            x.item(1, 0, k, true);
        }
        x.send(1, 0, true, -4);
        x.draft(1, 8, true);
        for (int k = 0; k < 4; k++) {
            x.item(1, 0, k, true);
        }
        x.send(1, 0, true, 0);
        x.count(0, 5, 32);
        x.count(0, 4, 32);
        x.sendCells(2, 0, 0, true, -4);
        x.sendCells(2, 0, 20, false, 0);
        x.count(0, 5, 32);
        x.count(0, 4, 52);

        Checked y = Checked.managed(4, "fullOneWayCells, calls do not count");
        y.lay(20, 12);
        y.sendCells(1, 0, 20, true, 0);
        y.sendCells(1, 0, 12, true, 0);
        y.count(0, 5, 32);
        y.count(0, 4, 64);
    }

    private static void oneWayCellsCountWhereverTheyLie() {
        Checked x = Checked.managed(2, "oneWayCellsCountWhereverTheyLie");
        x.sendCells(1, 0, 12, true, 0);
        x.sendCells(1, 0, 20, true, 0);
        x.send(1, 0, true, -4);
        x.take(0, 2);
        x.send(1, 0, true, -4);
        x.free(0, 0, true);
        x.count(0, 5, 20);
        x.sendCells(1, 0, 13, true, -4);
        x.take(0, 2);
        x.send(1, 0, true, -4);
        x.sendCells(1, 0, 12, true, 0);
        x.count(0, 5, 32);
    }

    /** "q would have more than 15 handles" */
    private static void fullHandles() {
        Checked x = Checked.managed(3, "fullHandles");
        x.lendNodes(14);
        x.serve(2, 8, true);
        x.serve(2, 9, true);
        x.item(2, 1, 8, true);
        x.send(2, 0, false, 0);
        x.count(0, 0, 15);
        x.handleIs(0, 15, 1, 0, 2, 8, 0);
        x.draft(2, 5, true);
        x.item(2, 1, 9, true);
        x.send(2, 0, true, -4);
        x.count(0, 0, 15);
        x.drop(0, 1, true, true);
        x.send(2, 0, true, 0);
        x.count(0, 0, 15);
        x.handleIs(0, 1, 1, 0, 2, 9, 0);
    }

    private static void severalNewHandles() {
        Checked x = Checked.managed(3, "severalNewHandles");
        x.lendNodes(12);
        for (int key = 5; key <= 8; key++) {
            x.serve(2, key, true);
            x.item(2, 1, key, true);
        }
        x.send(2, 0, true, -4);
        x.send(2, 0, false, -4);
        x.count(0, 0, 12);
        x.count(0, 4, 0);
        x.drop(0, 5, true, true);
        x.send(2, 0, false, 0);
        x.count(0, 0, 15);
        x.handleIs(0, 5, 1, 0, 2, 5, 0);
        x.handleIs(0, 13, 1, 0, 2, 6, 0);
        x.handleIs(0, 14, 1, 0, 2, 7, 0);
        x.handleIs(0, 15, 1, 0, 2, 8, 0);
    }

    private static void nodesThatNeedNoNewHandle() {
        Checked x = Checked.managed(3, "nodesThatNeedNoNewHandle");
        x.lendNodes(15);
        x.hold(0, 15, false, true);
        x.drop(0, 15, true, true);
        x.item(2, 1, Checked.lentKey(15), true);
        x.item(2, 1, Checked.lentKey(14), true);
        x.item(2, 2, 0, true);
        x.item(2, 0, 16, true);
        x.send(2, 0, true, 0);
        x.take(0, 2);
        x.reads(0, 0, 0, 2, 15);
        x.reads(0, 0, 1, 2, 14);
        x.reads(0, 0, 2, 1, 0);
        x.reads(0, 0, 3, 0, 16);
        x.handleIs(0, 15, 1, 1, 2, 4, 0);
        x.handleIs(0, 14, 2, 0, 2, 3, 0);
        x.drop(0, 15, true, true);
        x.drop(0, 15, false, true);
        x.serve(2, 9, true);
        for (int k = 0; k < 4; k++) {
            x.item(2, 1, 9, true);
        }
        x.send(2, 0, false, 0);
        x.handleIs(0, 15, 4, 0, 2, 9, 0);
    }

    /** "a NUMBER as it is" */
    private static void numbersAsTheyAre() {
        Checked x = Checked.managed(2, "numbersAsTheyAre");
        int[] numbers = {Integer.MIN_VALUE, Integer.MAX_VALUE, -1, 0};
        for (int number : numbers) {
            x.item(1, 0, number, true);
        }
        x.send(1, 0, false, 0);
        x.take(0, 1);
        for (int k = 0; k < 4; k++) {
            x.reads(0, 0, k, 0, numbers[k]);
        }
        x.count(0, 0, 0);
    }

    /** "a node that q has becomes an OWN key" */
    private static void ownOfReceiverBecomesOwn() {
        Checked x = Checked.managed(2, "ownOfReceiverBecomesOwn");
        x.lendNodes(10);
        x.item(0, 2, 10, true);
        x.item(0, 2, 1, true);
        x.item(0, 2, 10, true);
        x.send(0, 1, true, 0);
        x.takes(1, 2, 0, 0, 0, 0);
        x.reads(1, 0, 0, 1, 9);
        x.reads(1, 0, 1, 1, 0);
        x.reads(1, 0, 2, 1, 9);
        x.count(1, 0, 0);
        x.handle(0, 10, 0, 1);
        x.free(1, 0, true);
        x.count(1, 0, 0);
    }

    private static void oldNodeOfReceiverBecomesHandle() {
        Checked x = Checked.managed(2, "oldNodeOfReceiverBecomesHandle");
        x.lendNodes(1);
        x.reborn(1);
        x.serve(1, 0, true);
        x.lend(1, 0, 2);
        x.item(0, 2, 2, true);
        x.item(0, 2, 1, true);
        x.send(0, 2, true, 0);
        x.take(1, 2);
        x.reads(1, 0, 0, 1, 0);
        x.reads(1, 0, 1, 2, 1);
        x.handleIs(1, 1, 1, 0, 1, 0, 1);
    }

    /** "that which stands for the node, or the least number that is free" */
    private static void leastNumberThatIsFree() {
        Checked x = Checked.managed(3, "leastNumberThatIsFree");
        x.lendNodes(6);
        x.drop(0, 5, true, true);
        x.drop(0, 2, true, true);
        for (int key = 6; key <= 9; key++) {
            x.serve(1, key, true);
        }
        x.item(1, 1, 9, true);
        x.item(1, 1, 8, true);
        x.item(1, 1, 0, true);
        x.item(1, 1, 7, true);
        x.send(1, 0, false, 0);
        x.take(0, 1);
        x.reads(0, 0, 0, 2, 2);
        x.reads(0, 0, 1, 2, 5);
        x.reads(0, 0, 2, 2, 1);
        x.reads(0, 0, 3, 2, 7);
        x.handleIs(0, 2, 1, 0, 1, 9, 0);
        x.handleIs(0, 5, 1, 0, 1, 8, 0);
        x.handleIs(0, 1, 2, 0, 1, 0, 0);
        x.handleIs(0, 7, 1, 0, 1, 7, 0);
    }

    /** "with both counts 0 then; its STRONG grows by 1" */
    private static void countsOfNewHandleAreZero() {
        Checked x = Checked.managed(2, "countsOfNewHandleAreZero");
        x.lendNodes(1);
        x.serve(1, 5, true);
        for (int n = 0; n < 3; n++) {
            x.hold(0, 1, false, true);
            x.hold(0, 1, true, true);
        }
        for (int n = 0; n < 4; n++) {
            x.drop(0, 1, true, true);
        }
        for (int n = 0; n < 3; n++) {
            x.drop(0, 1, false, true);
        }
        x.item(1, 1, 5, true);
        x.send(1, 0, false, 0);
        x.handleIs(0, 1, 1, 0, 1, 5, 0);
    }

    private static void weakHandleBecomesStrong() {
        Checked x = Checked.managed(2, "weakHandleBecomesStrong");
        x.lendNodes(2);
        x.hold(0, 2, false, true);
        x.drop(0, 2, true, true);
        x.drop(0, 1, true, true);
        x.send(0, 2, true, -1);
        x.item(1, 1, 1, true);
        x.send(1, 0, false, 0);
        x.handleIs(0, 2, 1, 1, 1, 1, 0);
        x.noHandle(0, 1);
        x.send(0, 2, true, 0);
    }

    /** "The draft is empty then (its SIZE 0, too" */
    private static void draftIsEmptyThen() {
        Checked x = Checked.managed(2, "draftIsEmptyThen");
        x.draft(1, 20, true);
        for (int k = 0; k < 4; k++) {
            x.item(1, 0, k, true);
        }
        x.send(1, 0, false, 0);
        x.count(1, 7, 0);
        x.send(1, 0, true, 0);
        x.count(0, 4, 25);
        x.count(0, 5, 1);
        x.take(0, 1);
        x.draft(0, 20, true);
        x.item(0, 0, 1, true);
        x.reply(0, 0);
        x.count(0, 7, 0);
        x.send(0, 0, true, 0);
        x.count(0, 5, 2);
        x.take(0, 2);
        x.readFails(0, 24, 0, 0);
    }

    /** "of a message that is not done it stays as it is" */
    private static void draftStaysWhenNotDone() {
        Checked x = Checked.managed(4, "draftStaysWhenNotDone");
        x.lendNodes(1);
        x.die(1);
        x.sendCells(2, 0, 20, true, 0);
        x.send(0, 0, false, 0);
        x.draft(0, 11, true);
        x.item(0, 0, 77, true);
        x.item(0, 1, 4, true);
        x.send(0, 9, true, -1);
        x.send(0, 1, true, -2);
        x.send(0, 0, false, -5);
        x.send(0, 0, true, -3);
        x.serve(0, 4, true);
        x.send(0, 0, true, -4);
        x.count(0, 7, 2);
        x.take(0, 2);
        x.free(0, 0, true);
        x.send(0, 0, true, 0);
        x.take(0, 1);
        x.takes(0, 2, 0, 0, 0, 0);
        x.read(0, 0, 0, 2, 13);
        x.reads(0, 0, 0, 0, 77);
        x.reads(0, 0, 1, 1, 4);
    }
}
