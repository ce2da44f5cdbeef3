/** Edges of promises 9 and 10: take, latest. */
public final class TakeEdgesTest {
    private static final int[] NO_WHATS = {-1, 5, Integer.MIN_VALUE, Integer.MAX_VALUE};

    public static void main(String[] args) {
        emptyInbox();
        firstIsTaken();
        twelveAreOpen();
        callStaysWhateverLiesBehind();
        otherWorkWithTwelveOpen();
        replyMakesRoom();
        freeMakesNoRoom();
        waitsNoMoreWithReplyOrFailed();
        waitsOnWithOtherWork();
        latestOfCall();
        latestOfOneWay();
        latestOfReply();
        latestOfDeath();
        latestOfFailed();
        latestWhenNoneWasTaken();
        latestSinceItWasBorn();
        latestAfterEmptyTake();
        latestAfterRefusedCall();
        latestAfterFree();
        latestOfAnotherWhat();
        Checked.end();
    }

    /** "0 when it is empty" */
    private static void emptyInbox() {
        Checked x = Checked.managed(2, "emptyInbox");
        x.take(0, 0);
        x.take(0, 0);
        x.send(1, 0, true, 0);
        x.take(0, 2);
        x.take(0, 0);
        x.take(1, 0);
    }

    /** "Takes the first work out of the inbox: its kind" */
    private static void firstIsTaken() {
        Checked x = Checked.managed(3, "firstIsTaken");
        x.lendNodes(2);
        x.watch(0, 2, 44, true);
        x.send(0, 1, false, 0);
        x.take(1, 1);
        x.send(2, 0, true, 0);
        x.reply(1, 0);
        x.send(2, 0, false, 0);
        x.die(1);
        x.count(0, 1, 4);
        int[] kinds = {2, 3, 1, 4};
        for (int n = 0; n < kinds.length; n++) {
            x.take(0, kinds[n]);
            x.count(0, 1, 3 - n);
        }
        x.take(0, 0);
    }

    /** "(it stays, and 0 is answered, when 12 are open" */
    private static void twelveAreOpen() {
        Checked x = Checked.managed(4, "twelveAreOpen");
        x.openCalls(11);
        x.send(1, 0, false, 0);
        x.send(2, 0, false, 0);
        x.takes(0, 1, 0, 0, 1, 0);
        x.count(0, 2, 12);
        x.take(0, 0);
        x.take(0, 0);
        x.count(0, 1, 1);
        x.count(0, 2, 12);
        x.latestIs(0, 1, 0, 0, 1, 0);
        x.free(0, 1, false);
        x.readFails(0, 1, 0, 2);
    }

    /** "whatever lies behind it)" */
    private static void callStaysWhateverLiesBehind() {
        Checked x = Checked.managed(4, "callStaysWhateverLiesBehind");
        x.lendNodes(2);
        x.watch(0, 2, 7, true);
        x.send(0, 1, false, 0);
        x.openCalls(12);
        x.send(2, 0, false, 0);
        x.send(3, 0, true, 0);
        x.die(1);
        x.count(0, 1, 4);
        x.take(0, 0);
        x.count(0, 1, 4);
        x.count(0, 3, 1);
        x.reply(0, -2);
        x.take(0, 1);
        x.take(0, 2);
        x.take(0, 5);
        x.take(0, 4);
    }

    private static void otherWorkWithTwelveOpen() {
        Checked x = Checked.managed(4, "otherWorkWithTwelveOpen");
        x.lendNodes(11);
        x.watch(0, 11, 7, true);
        x.openCalls(12);
        x.send(0, 1, false, 0);
        x.take(1, 1);
        x.reply(1, 0);
        x.take(0, 3);
        x.send(3, 0, true, 0);
        x.take(0, 2);
        x.send(0, 11, false, 0);
        x.die(2);
        x.take(0, 5);
        x.take(0, 4);
        x.count(0, 2, 12);
        x.send(1, 0, false, 0);
        x.take(0, 0);
    }

    private static void replyMakesRoom() {
        Checked x = Checked.managed(4, "replyMakesRoom");
        x.openCalls(11);
        x.send(1, 0, false, 0);
        x.take(0, 1);
        x.send(2, 0, false, 0);
        x.take(0, 0);
        x.item(0, 1, 9, true);
        x.reply(0, -3);
        x.take(0, 0);
        x.draft(0, 0, true);
        x.reply(0, 0);
        x.takes(0, 1, 0, 1, 2, 0);
        x.count(0, 2, 12);
    }

    private static void freeMakesNoRoom() {
        Checked x = Checked.managed(4, "freeMakesNoRoom");
        x.openCalls(11);
        x.send(1, 0, false, 0);
        x.take(0, 1);
        x.send(2, 0, false, 0);
        x.free(0, 0, true);
        x.count(0, 2, 12);
        x.take(0, 0);
    }

    /** "with a REPLY or FAILED p waits no more" */
    private static void waitsNoMoreWithReplyOrFailed() {
        Checked x = Checked.managed(2, "waitsNoMoreWithReplyOrFailed");
        x.send(1, 0, false, 0);
        x.take(0, 1);
        x.reply(0, 0);
        x.count(1, 3, 1);
        x.take(1, 3);
        x.count(1, 3, 0);
        x.send(1, 0, false, 0);
        x.die(0);
        x.count(1, 3, 1);
        x.take(1, 5);
        x.count(1, 3, 0);
    }

    private static void waitsOnWithOtherWork() {
        Checked x = Checked.managed(3, "waitsOnWithOtherWork");
        x.lendNodes(11);
        x.watch(0, 11, 1, true);
        x.send(0, 1, false, 0);
        x.send(2, 0, true, 0);
        x.send(2, 0, false, 0);
        x.die(2);
        int[] kinds = {2, 1, 4};
        for (int kind : kinds) {
            x.take(0, kind);
            x.count(0, 3, 1);
            x.send(0, 1, false, -5);
        }
    }

    /** "1 the node's key (1, 2; else -1), 2 where the buffer begins (1 to 3; else -1), 3 the sender's process" */
    private static void latestOfCall() {
        Checked x = Checked.with(4, "latestOfCall");
        x.serve(3, 9, true);
        x.manage(3, 9, true);
        x.sendCells(0, 0, 5, false, 0);
        x.sendCells(2, 0, 5, false, 0);
        x.takes(3, 1, 9, 0, 0, 0);
        x.takes(3, 1, 9, 5, 2, 0);
    }

    private static void latestOfOneWay() {
        Checked x = Checked.with(4, "latestOfOneWay");
        x.serve(3, 9, true);
        x.manage(3, 9, true);
        x.sendCells(0, 0, 5, false, 0);
        x.sendCells(2, 0, 5, true, 0);
        x.take(3, 1);
        x.takes(3, 2, 9, 5, 2, 0);
    }

    private static void latestOfReply() {
        Checked x = Checked.managed(4, "latestOfReply");
        x.send(3, 0, false, 0);
        x.take(0, 1);
        x.reply(0, 0);
        x.takes(3, 3, -1, 0, 0, 0);
    }

    /** "4 the cookie (4; else 0)" */
    private static void latestOfDeath() {
        int[] cookies = {Integer.MIN_VALUE, Integer.MAX_VALUE, -1, 0, 1};
        Checked x = Checked.managed(2, "latestOfDeath");
        x.lendNodes(1);
        for (int cookie : cookies) {
            x.watch(0, 1, cookie, true);
        }
        x.die(1);
        for (int cookie : cookies) {
            x.takes(0, 4, -1, -1, -1, cookie);
        }
        for (int cookie : cookies) {
            x.watch(0, 1, cookie, true);
            x.takes(0, 4, -1, -1, -1, cookie);
        }
        x.send(0, 0, true, 0);
        x.takes(0, 2, 0, 0, 0, 0);
    }

    private static void latestOfFailed() {
        Checked x = Checked.managed(2, "latestOfFailed");
        x.lendNodes(1);
        x.watch(0, 1, 6, true);
        x.send(0, 1, false, 0);
        x.die(1);
        x.takes(0, 5, -1, -1, -1, 0);
        x.takes(0, 4, -1, -1, -1, 6);
    }

    /** "0 for kind when none was taken" */
    private static void latestWhenNoneWasTaken() {
        Checked x = Checked.managed(2, "latestWhenNoneWasTaken");
        x.latestIs(0, 0, -1, -1, -1, 0);
        x.send(1, 0, false, 0);
        x.latestIs(0, 0, -1, -1, -1, 0);
        x.take(1, 0);
        x.latestIs(1, 0, -1, -1, -1, 0);
    }

    /** "(since it was born" */
    private static void latestSinceItWasBorn() {
        Checked x = Checked.managed(3, "latestSinceItWasBorn");
        x.send(2, 0, false, 0);
        x.takes(0, 1, 0, 0, 2, 0);
        x.reply(0, 0);
        x.takes(2, 3, -1, 0, 0, 0);
        x.reborn(0);
        x.latestIs(0, 0, -1, -1, -1, 0);
        x.latestIs(2, 3, -1, 0, 0, 0);
    }

    /** "a take() that answers 0 leaves it" */
    private static void latestAfterEmptyTake() {
        Checked x = Checked.managed(2, "latestAfterEmptyTake");
        x.lendNodes(1);
        x.watch(0, 1, 13, true);
        x.die(1);
        x.take(0, 4);
        x.take(0, 0);
        x.latestIs(0, 4, -1, -1, -1, 13);
    }

    private static void latestAfterRefusedCall() {
        Checked x = Checked.managed(4, "latestAfterRefusedCall");
        x.openCalls(12);
        x.sendCells(1, 0, 3, true, 0);
        x.take(0, 2);
        x.send(2, 0, false, 0);
        x.take(0, 0);
        x.latestIs(0, 2, 0, 0, 1, 0);
    }

    /** "as does free()" */
    private static void latestAfterFree() {
        Checked x = Checked.managed(3, "latestAfterFree");
        x.sendCells(2, 0, 3, false, 0);
        x.sendCells(1, 0, 3, false, 0);
        x.take(0, 1);
        x.take(0, 1);
        x.free(0, 3, true);
        x.latestIs(0, 1, 0, 3, 1, 0);
        x.free(0, 0, true);
        x.latestIs(0, 1, 0, 3, 1, 0);
        x.reply(0, 0);
        x.latestIs(0, 1, 0, 3, 1, 0);
        x.send(2, 0, true, 0);
        x.latestIs(0, 1, 0, 3, 1, 0);
    }

    /** "Throws NoSuchElementException for another what." */
    private static void latestOfAnotherWhat() {
        Checked x = Checked.managed(2, "latestOfAnotherWhat");
        x.send(1, 0, false, 0);
        for (int what : NO_WHATS) {
            x.raises("latest(0, " + what + ")", Checked.NO_ELEMENT, d -> d.latest(0, what));
        }
        x.take(0, 1);
        for (int what : NO_WHATS) {
            x.raises("latest(0, " + what + ")", Checked.NO_ELEMENT, d -> d.latest(0, what));
            x.raises("latest(3, " + what + ")", Checked.STATE, d -> d.latest(3, what));
            x.raises("latest(4, " + what + ")", Checked.ARGUMENT, d -> d.latest(4, what));
        }
        x.latestIs(0, 1, 0, 0, 1, 0);
    }
}
