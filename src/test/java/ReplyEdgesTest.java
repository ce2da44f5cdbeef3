/** Edges of promise 11: reply. */
public final class ReplyEdgesTest {
    public static void main(String[] args) {
        noneIsOpen();
        noneIsOpenBeforeBad();
        openedLatestFirst();
        doneIsOpenNoMore();
        callerHasDied();
        callerIsBornAgain();
        callerHasDiedBeforeBadAndFull();
        draftStaysForTheNext();
        badOwn();
        badHandle();
        badZeroWithoutManager();
        badBeforeFull();
        fullInbox();
        fullArea();
        fullHandles();
        oneWayCellsDoNotMatter();
        openStaysWhenNotDone();
        replyWithLargestDraft();
        replyWithEmptyDraft();
        twelveReplies();
        Checked.end();
    }

    /** "-1 none is open" */
    private static void noneIsOpen() {
        Checked x = Checked.managed(2, "noneIsOpen");
        x.reply(0, -1);
        x.send(1, 0, false, 0);
        x.reply(0, -1);
        x.reply(1, -1);
        x.take(0, 1);
        x.reply(1, -1);
        x.reply(0, 0);
        x.reply(0, -1);
        x.send(1, 0, true, 0);
        x.take(0, 2);
        x.reply(0, -1);
        x.take(1, 3);
        x.reply(1, -1);
    }

    private static void noneIsOpenBeforeBad() {
        Checked x = Checked.managed(2, "noneIsOpenBeforeBad");
        x.item(0, 1, 9, true);
        x.reply(0, -1);
        x.count(0, 7, 1);
        x.draft(0, 4, true);
        x.item(0, 0, 9, true);
        x.reply(0, -1);
        x.send(0, 0, true, 0);
        x.count(0, 5, 5);
    }

    /** "Answers the call that was opened latest and is open" */
    private static void openedLatestFirst() {
        Checked x = Checked.managed(4, "openedLatestFirst");
        x.send(2, 0, false, 0);
        x.take(0, 1);
        x.send(1, 0, false, 0);
        x.send(3, 0, false, 0);
        x.take(0, 1);
        x.reply(0, 0);
        x.count(1, 1, 1);
        x.count(2, 1, 0);
        x.take(0, 1);
        x.reply(0, 0);
        x.count(3, 1, 1);
        x.count(2, 1, 0);
        x.reply(0, 0);
        x.count(2, 1, 1);
        x.reply(0, -1);
    }

    /** "0 done, it is open no more, and REPLY comes to the caller" */
    private static void doneIsOpenNoMore() {
        Checked x = Checked.managed(2, "doneIsOpenNoMore");
        x.send(1, 0, false, 0);
        x.take(0, 1);
        x.count(0, 2, 1);
        x.reply(0, 0);
        x.count(0, 2, 0);
        x.count(1, 1, 1);
        x.takes(1, 3, -1, 0, 0, 0);
        x.take(1, 0);
        x.count(0, 4, 1);
        x.read(0, 0, 0, 2, 1);
    }

    /** "-2 the caller has died since" */
    private static void callerHasDied() {
        Checked x = Checked.managed(3, "callerHasDied");
        x.send(1, 0, false, 0);
        x.die(1);
        x.take(0, 1);
        x.send(2, 0, false, 0);
        x.take(0, 1);
        x.die(2);
        x.draft(0, 3, true);
        x.item(0, 0, 5, true);
        x.reply(0, -2);
        x.count(0, 2, 1);
        x.reply(0, -2);
        x.count(0, 2, 0);
        x.reply(0, -1);
        x.count(0, 7, 1);
        x.send(0, 0, true, 0);
        x.count(0, 5, 4);
    }

    /** "(born again or not; it is open no more, the draft stays)" */
    private static void callerIsBornAgain() {
        Checked x = Checked.managed(2, "callerIsBornAgain");
        x.send(1, 0, false, 0);
        x.take(0, 1);
        x.reborn(1);
        x.send(1, 0, false, 0);
        x.draft(0, 3, true);
        x.item(0, 0, 5, true);
        x.reply(0, -2);
        x.count(0, 2, 0);
        x.count(0, 7, 1);
        x.count(1, 1, 0);
        x.count(1, 3, 1);
        x.count(1, 4, 0);
        x.take(0, 1);
        x.reply(0, 0);
        x.takes(1, 3, -1, 0, 0, 0);
        x.read(1, 0, 0, 2, 4);
        x.reads(1, 0, 0, 0, 5);
    }

    private static void callerHasDiedBeforeBadAndFull() {
        Checked x = Checked.managed(2, "callerHasDiedBeforeBadAndFull");
        x.send(1, 0, false, 0);
        x.take(0, 1);
        x.item(0, 1, 9, true);
        x.reply(0, -3);
        x.reborn(1);
        x.reply(0, -2);
        x.reply(0, -1);
        x.count(0, 7, 1);
    }

    private static void draftStaysForTheNext() {
        Checked x = Checked.managed(3, "draftStaysForTheNext");
        x.send(1, 0, false, 0);
        x.take(0, 1);
        x.send(2, 0, false, 0);
        x.take(0, 1);
        x.die(2);
        x.draft(0, 20, true);
        x.item(0, 1, 0, true);
        x.reply(0, -2);
        x.reply(0, 0);
        x.take(1, 3);
        x.read(1, 0, 0, 2, 21);
        x.reads(1, 0, 0, 2, 1);
        x.handleIs(1, 1, 1, 0, 0, 0, 0);
    }

    private static Checked withOpenCall(int living, String name) {
        Checked x = Checked.managed(living, name);
        x.send(1, 0, false, 0);
        x.take(0, 1);
        x.free(0, 0, true);
        return x;
    }

    /** "-3 BAD" */
    private static void badOwn() {
        Checked x = withOpenCall(2, "badOwn");
        x.serve(1, 3, true);
        int[] none = {3, 9, -1, 10};
        for (int key : none) {
            x.draft(0, 0, true);
            x.item(0, 1, 0, true);
            x.item(0, 1, key, true);
            x.reply(0, -3);
        }
        x.draft(0, 0, true);
        x.item(0, 1, 0, true);
        x.reply(0, 0);
    }

    private static void badHandle() {
        Checked x = withOpenCall(2, "badHandle");
        x.lendNodes(2);
        x.hold(0, 2, false, true);
        x.drop(0, 2, true, true);
        int[] bad = {2, 3, 15, 16, -1};
        for (int handle : bad) {
            x.draft(0, 0, true);
            x.item(0, 2, handle, true);
            x.reply(0, -3);
        }
        x.draft(0, 0, true);
        x.item(0, 2, 0, true);
        x.item(0, 2, 1, true);
        x.reply(0, 0);
        x.take(1, 3);
        x.reads(1, 0, 0, 2, 1);
        x.reads(1, 0, 1, 1, 0);
    }

    private static void badZeroWithoutManager() {
        Checked x = Checked.managed(3, "badZeroWithoutManager");
        x.lendNodes(11);
        x.item(0, 2, 1, true);
        x.send(0, 11, true, 0);
        x.take(2, 2);
        x.send(2, 1, false, 0);
        x.take(1, 1);
        x.item(1, 2, 0, true);
        x.die(0);
        x.reply(1, -3);
        x.manage(2, 0, true);
        x.reply(1, 0);
        x.takes(2, 3, -1, 1, 1, 0);
        x.reads(2, 1, 0, 1, 0);
    }

    private static void badBeforeFull() {
        Checked x = withOpenCall(4, "badBeforeFull");
        fillOfCaller(x, 12);
        x.item(0, 1, 9, true);
        x.reply(0, -3);
        x.serve(0, 9, true);
        x.reply(0, -4);
    }

    /** Puts one-way messages of one cell to nodes of their own into the inbox of process 1. */
    private static void fillOfCaller(Checked x, int works) {
        x.lendNodes(10);
        for (int n = 0; n < works && n < 10; n++) {
            x.send(0, n + 1, true, 0);
        }
        for (int n = 10; n < works; n++) {
            callCaller(x, 12 - n + 1);
        }
    }

    /** Process p, 2 or 3, calls a node of process 1 of which it was told by process 0. */
    private static void callCaller(Checked x, int p) {
        x.serve(p, 9, true);
        x.item(p, 1, 9, true);
        x.send(p, 0, true, 0);
        x.take(0, 2);
        int at = x.latestAt(0);
        x.item(0, 2, 1, true);
        x.send(0, 11, true, 0);
        x.take(p, 2);
        x.send(p, 1, false, 0);
        x.free(0, at, true);
    }

    /** "-4 FULL" */
    private static void fullInbox() {
        Checked x = withOpenCall(4, "fullInbox");
        fillOfCaller(x, 11);
        x.count(1, 1, 11);
        x.reply(0, 0);
        x.count(1, 1, 12);

        Checked y = withOpenCall(4, "fullInbox, twelve");
        fillOfCaller(y, 12);
        y.count(1, 1, 12);
        y.reply(0, -4);
        y.count(0, 2, 1);
        y.take(1, 2);
        y.reply(0, 0);
        y.count(1, 1, 12);
    }

    private static void fullArea() {
        Checked x = withOpenCall(3, "fullArea");
        x.lendNodes(1);
        x.sendCells(0, 1, 20, true, 0);
        x.sendCells(0, 1, 12, true, 0);
        x.sendCells(0, 1, 20, false, 0);
        x.draft(0, 9, true);
        for (int k = 0; k < 4; k++) {
            x.item(0, 0, k, true);
        }
        x.reply(0, -4);
        x.draft(0, 8, true);
        for (int k = 0; k < 4; k++) {
            x.item(0, 0, k, true);
        }
        x.reply(0, 0);
        x.count(1, 4, 64);
        x.count(1, 5, 32);
    }

    private static void fullHandles() {
        Checked x = Checked.managed(3, "fullHandles");
        x.lendNodes(10);
        for (int key = 1; key <= 9; key++) {
            x.serve(0, key, true);
        }
        for (int key = 0; key <= 9; key++) {
            x.item(0, 1, key, true);
            if (key % 4 == 3 || key == 9) {
                x.send(0, 1, true, 0);
            }
        }
        x.count(1, 0, 10);
        x.take(1, 2);
        for (int key = 0; key <= 5; key++) {
            x.serve(2, key, true);
            x.lend(2, key, 11);
            x.item(0, 2, 11, true);
            x.send(1, 0, false, 0);
            x.take(0, 1);
            x.reply(0, key < 5 ? 0 : -4);
            x.count(1, 0, Math.min(11 + key, 15));
            x.free(0, x.latestAt(0), true);
            x.drop(0, 11, true, true);
            if (key < 5) {
                x.take(1, 3);
            }
        }
        x.lend(2, 5, 11);
        x.drop(1, 7, true, true);
        x.draft(0, 0, true);
        x.item(0, 2, 11, true);
        x.reply(0, 0);
        x.handleIs(1, 7, 1, 0, 2, 5, 0);
    }

    private static void oneWayCellsDoNotMatter() {
        Checked x = withOpenCall(2, "oneWayCellsDoNotMatter");
        x.lendNodes(1);
        x.sendCells(0, 1, 20, true, 0);
        x.sendCells(0, 1, 12, true, 0);
        x.sendCells(0, 1, 1, true, -4);
        x.draft(0, 20, true);
        x.reply(0, 0);
        x.count(1, 5, 32);
        x.count(1, 4, 52);
    }

    private static void openStaysWhenNotDone() {
        Checked x = withOpenCall(2, "openStaysWhenNotDone");
        x.draft(0, 2, true);
        x.item(0, 1, 9, true);
        x.reply(0, -3);
        x.reply(0, -3);
        x.count(0, 2, 1);
        x.count(0, 7, 1);
        x.count(1, 3, 1);
        x.count(1, 1, 0);
        x.serve(0, 9, true);
        x.reply(0, 0);
        x.take(1, 3);
        x.read(1, 0, 0, 2, 3);
    }

    private static void replyWithLargestDraft() {
        Checked x = withOpenCall(2, "replyWithLargestDraft");
        x.draft(0, 20, true);
        for (int k = 0; k < 4; k++) {
            x.item(0, 0, -k, true);
        }
        x.reply(0, 0);
        x.take(1, 3);
        x.read(1, 0, 0, 2, 24);
        x.reads(1, 0, 3, 0, -3);
    }

    private static void replyWithEmptyDraft() {
        Checked x = withOpenCall(2, "replyWithEmptyDraft");
        x.reply(0, 0);
        x.count(1, 4, 1);
        x.take(1, 3);
        x.read(1, 0, 0, 2, 1);
        x.readFails(1, 0, 0, 0);
    }

    private static void twelveReplies() {
        Checked x = Checked.managed(4, "twelveReplies");
        x.openCalls(9);
        for (int p = 1; p <= 3; p++) {
            x.send(p, 0, false, 0);
            x.take(0, 1);
        }
        x.count(0, 2, 12);
        for (int p = 3; p >= 1; p--) {
            x.item(0, 0, p, true);
            x.reply(0, 0);
            x.take(p, 3);
            x.reads(p, 0, 0, 0, p);
        }
        for (int left = 8; left >= 0; left--) {
            x.reply(0, -2);
            x.count(0, 2, left);
        }
        x.reply(0, -1);
    }
}
