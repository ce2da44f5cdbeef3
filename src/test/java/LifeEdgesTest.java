/** Edges of promises 1 to 3: a new object, born, die. */
public final class LifeEdgesTest {
    private static final int[] NO_PROCESSES = {-1, 4, Integer.MIN_VALUE, Integer.MAX_VALUE};

    public static void main(String[] args) {
        newObjectHasNoManager();
        bornOnceOnly();
        bornWhenThereIsNoSuchProcess();
        bornWithNothing();
        bornAgainWithNothing();
        bornAgainWithoutHandles();
        bornAgainWithEmptyDraft();
        dieOnceOnly();
        dieWhenThereIsNoSuchProcess();
        dieOfTheManagersProcess();
        dieOfAnotherProcess();
        failedWhereTheCallLies();
        failedWithTwelveOpen();
        noFailedAfterReply();
        noFailedForOneWays();
        noFailedForCallersThatDied();
        noFailedForCallsToOthers();
        failedOnceWhenBornAgain();
        waitsUntilFailedIsTaken();
        selfCallerDies();
        failedAndDeathIntoFullInbox();
        failedBeforeDeath();
        deathsInTheOrderOfAsking();
        deathsOfThatProcessOnly();
        deathOnceOnly();
        noDeathForTheDeadWatcher();
        waitingOneWaysAreNoMore();
        sentLiesOnInInbox();
        sentLiesOnWaiting();
        sentLiesOnTaken();
        sentReplyLiesOn();
        Checked.end();
    }

    /** "No process is alive, no manager." */
    private static void newObjectHasNoManager() {
        Checked x = Checked.with(4, "newObjectHasNoManager");
        for (int p = 0; p <= 3; p++) {
            x.send(p, 0, true, -1);
            x.send(p, 0, false, -1);
        }
        x.serve(3, 9, true);
        x.send(3, 0, true, -1);
        x.manage(3, 9, true);
    }

    /** "IllegalStateException when it is alive" */
    private static void bornOnceOnly() {
        Checked x = busy("bornOnceOnly");
        for (int p = 0; p <= 3; p++) {
            int q = p;
            x.raises("born(" + p + ")", Checked.STATE, d -> d.born(q));
        }
        x.die(3);
        x.born(3);
        x.raises("born(3)", Checked.STATE, d -> d.born(3));
    }

    /** All four are alive, and 0 has some of everything. */
    private static Checked busy(String name) {
        Checked x = Checked.managed(4, name);
        x.lendNodes(3);
        x.hold(0, 2, false, true);
        x.watch(0, 2, 22, true);
        x.watch(0, 3, 33, true);
        x.sendCells(1, 0, 3, false, 0);
        x.take(0, 1);
        x.sendCells(2, 0, 4, false, 0);
        x.sendCells(2, 0, 2, true, 0);
        x.sendCells(2, 0, 2, true, 0);
        x.send(0, 0, false, 0);
        x.draft(0, 6, true);
        x.item(0, 0, 1, true);
        int[] counts = {3, 3, 1, 1, 12, 4, 2, 1};
        for (int what = 0; what < counts.length; what++) {
            x.count(0, what, counts[what]);
        }
        return x;
    }

    /** "Throws IllegalArgumentException when there is no p" */
    private static void bornWhenThereIsNoSuchProcess() {
        Checked x = busy("bornWhenThereIsNoSuchProcess");
        Checked y = new Checked("bornWhenThereIsNoSuchProcess, none alive");
        for (int p : NO_PROCESSES) {
            x.raises("born(" + p + ")", Checked.ARGUMENT, d -> d.born(p));
            y.raises("born(" + p + ")", Checked.ARGUMENT, d -> d.born(p));
        }
    }

    /** "Process p is alive, with nothing." */
    private static void bornWithNothing() {
        Checked x = new Checked("bornWithNothing");
        int[] all = {3, 0, 2, 1};
        for (int p : all) {
            x.born(p);
            x.hasNothing(p);
        }
    }

    private static void bornAgainWithNothing() {
        Checked x = busy("bornAgainWithNothing");
        x.reborn(0);
        x.hasNothing(0);
        x.serve(0, 0, true);
        x.manage(0, 0, true);
        x.send(0, 0, true, 0);
        x.count(0, 5, 1);
        x.take(0, 2);
        x.free(0, 0, true);
        x.take(0, 0);
        x.die(1);
        x.take(0, 0);
        x.reply(0, -1);
    }

    private static void bornAgainWithoutHandles() {
        Checked x = Checked.managed(3, "bornAgainWithoutHandles");
        x.lendNodes(15);
        x.hold(0, 1, true, true);
        x.hold(0, 1, false, true);
        x.hold(0, 15, true, true);
        x.hold(0, 15, false, true);
        x.reborn(0);
        x.hasNothing(0);
        x.serve(0, 0, true);
        x.manage(0, 0, true);
        for (int handle = 1; handle <= 15; handle++) {
            x.item(Checked.lender(handle), 1, Checked.lentKey(handle), true);
            x.send(Checked.lender(handle), 0, true, 0);
        }
        x.handleIs(0, 1, 1, 0, 1, 0, 0);
        x.handleIs(0, 15, 1, 0, 2, 4, 0);
    }

    private static void bornAgainWithEmptyDraft() {
        Checked x = Checked.managed(2, "bornAgainWithEmptyDraft");
        x.draft(1, 20, true);
        for (int k = 0; k < 4; k++) {
            x.item(1, 0, k, true);
        }
        x.reborn(1);
        x.count(1, 7, 0);
        x.item(1, 0, 5, true);
        x.item(1, 0, 6, true);
        x.send(1, 0, true, 0);
        x.count(0, 5, 2);
    }

    /** "IllegalStateException when it is not alive" */
    private static void dieOnceOnly() {
        Checked x = busy("dieOnceOnly");
        x.die(1);
        x.raises("die(1)", Checked.STATE, d -> d.die(1));
        Checked y = new Checked("dieOnceOnly, none alive");
        for (int p = 0; p <= 3; p++) {
            int q = p;
            y.raises("die(" + p + ")", Checked.STATE, d -> d.die(q));
        }
    }

    private static void dieWhenThereIsNoSuchProcess() {
        Checked x = busy("dieWhenThereIsNoSuchProcess");
        for (int p : NO_PROCESSES) {
            x.raises("die(" + p + ")", Checked.ARGUMENT, d -> d.die(p));
        }
    }

    /** "if one was the manager, there is none" */
    private static void dieOfTheManagersProcess() {
        Checked x = Checked.with(2, "dieOfTheManagersProcess");
        for (int key = 0; key <= 9; key++) {
            x.serve(0, key, true);
        }
        x.manage(0, 9, true);
        x.die(0);
        x.send(1, 0, true, -1);
        x.serve(1, 4, true);
        x.manage(1, 4, true);
        x.send(1, 0, true, 0);
        x.takes(1, 2, 4, 0, 1, 0);
    }

    private static void dieOfAnotherProcess() {
        Checked x = Checked.managed(4, "dieOfAnotherProcess");
        x.serve(1, 0, true);
        x.die(1);
        x.die(3);
        x.send(2, 0, true, 0);
        x.takes(0, 2, 0, 0, 2, 0);
        x.serve(2, 0, true);
        x.manage(2, 0, false);
    }

    /** "Callers that wait for it (their call lies in its inbox or is open) .. get FAILED." */
    private static void failedWhereTheCallLies() {
        Checked x = Checked.managed(4, "failedWhereTheCallLies");
        x.send(3, 0, false, 0);
        x.send(2, 0, false, 0);
        x.send(1, 0, false, 0);
        x.take(0, 1);
        x.take(0, 1);
        x.free(0, 0, true);
        x.die(0);
        for (int p = 1; p <= 3; p++) {
            x.count(p, 1, 1);
            x.takes(p, 5, -1, -1, -1, 0);
            x.take(p, 0);
        }
    }

    private static void failedWithTwelveOpen() {
        Checked x = Checked.managed(4, "failedWithTwelveOpen");
        x.openCalls(11);
        x.send(1, 0, false, 0);
        x.take(0, 1);
        x.send(2, 0, false, 0);
        x.take(0, 0);
        x.die(0);
        x.count(1, 1, 1);
        x.count(2, 1, 1);
        x.count(3, 1, 0);
    }

    private static void noFailedAfterReply() {
        Checked x = Checked.managed(3, "noFailedAfterReply");
        x.send(1, 0, false, 0);
        x.take(0, 1);
        x.reply(0, 0);
        x.send(2, 0, false, 0);
        x.take(0, 1);
        x.item(0, 1, 9, true);
        x.reply(0, -3);
        x.die(0);
        x.count(1, 1, 1);
        x.take(1, 3);
        x.count(2, 1, 1);
        x.take(2, 5);
    }

    private static void noFailedForOneWays() {
        Checked x = Checked.managed(2, "noFailedForOneWays");
        x.send(1, 0, true, 0);
        x.take(0, 2);
        x.send(1, 0, true, 0);
        x.die(0);
        x.count(1, 1, 0);
        x.count(1, 3, 0);
    }

    private static void noFailedForCallersThatDied() {
        Checked x = Checked.managed(4, "noFailedForCallersThatDied");
        x.send(1, 0, false, 0);
        x.take(0, 1);
        x.send(2, 0, false, 0);
        x.die(1);
        x.reborn(2);
        x.die(0);
        x.count(2, 1, 0);
        x.born(1);
        x.hasNothing(1);
    }

    private static void noFailedForCallsToOthers() {
        Checked x = Checked.managed(3, "noFailedForCallsToOthers");
        x.lendNodes(11);
        x.send(0, 1, false, 0);
        x.die(2);
        x.count(0, 1, 0);
        x.count(0, 3, 1);
        x.take(1, 1);
        x.reply(1, 0);
        x.take(0, 3);
    }

    private static void failedOnceWhenBornAgain() {
        Checked x = Checked.managed(2, "failedOnceWhenBornAgain");
        for (int n = 0; n < 3; n++) {
            x.send(1, 0, false, 0);
            x.take(0, 1);
            x.reborn(1);
        }
        x.send(1, 0, false, 0);
        x.die(0);
        x.count(1, 1, 1);
    }

    private static void waitsUntilFailedIsTaken() {
        Checked x = Checked.managed(2, "waitsUntilFailedIsTaken");
        x.send(1, 0, false, 0);
        x.die(0);
        x.serve(1, 1, true);
        x.manage(1, 1, true);
        x.count(1, 3, 1);
        x.send(1, 0, false, -5);
        x.take(1, 5);
        x.count(1, 3, 0);
        x.send(1, 0, false, 0);
    }

    private static void selfCallerDies() {
        Checked x = Checked.managed(2, "selfCallerDies");
        x.send(0, 0, false, 0);
        x.reborn(0);
        x.hasNothing(0);
        x.serve(0, 0, true);
        x.manage(0, 0, true);
        x.send(0, 0, false, 0);
        x.take(0, 1);
        x.reborn(0);
        x.hasNothing(0);
        x.hasNothing(1);
    }

    /** "(4 and 5 also when there are 12)" */
    private static void failedAndDeathIntoFullInbox() {
        Checked x = Checked.managed(4, "failedAndDeathIntoFullInbox");
        x.lendNodes(1);
        x.send(0, 1, false, 0);
        x.fillInbox(12);
        x.die(1);
        x.count(0, 1, 13);

        Checked y = Checked.managed(4, "failedAndDeathIntoFullInbox, deaths");
        y.lendNodes(1);
        for (int n = 1; n <= 8; n++) {
            y.watch(0, 1, n, true);
        }
        y.fillInbox(12);
        y.die(1);
        y.count(0, 1, 20);
        for (int n = 0; n < 12; n++) {
            y.take(0, 1);
        }
        for (int n = 1; n <= 8; n++) {
            y.takes(0, 4, -1, -1, -1, n);
        }
        y.take(0, 0);
    }

    /** "Then the others, by their numbers, get DEATH" */
    private static void failedBeforeDeath() {
        Checked x = Checked.managed(2, "failedBeforeDeath");
        x.lendNodes(2);
        x.watch(0, 1, 9, true);
        x.watch(0, 2, 8, true);
        x.send(0, 2, false, 0);
        x.take(1, 1);
        x.die(1);
        x.takes(0, 5, -1, -1, -1, 0);
        x.takes(0, 4, -1, -1, -1, 9);
        x.takes(0, 4, -1, -1, -1, 8);
    }

    /** "in the order in which these were asked for (they are over)" */
    private static void deathsInTheOrderOfAsking() {
        Checked x = Checked.managed(2, "deathsInTheOrderOfAsking");
        x.lendNodes(3);
        int[] handles = {3, 1, 2, 1, 3};
        for (int n = 0; n < handles.length; n++) {
            x.watch(0, handles[n], 50 - n, true);
        }
        x.drop(0, 1, true, true);
        x.die(1);
        x.count(0, 6, 0);
        for (int n = 0; n < handles.length; n++) {
            x.takes(0, 4, -1, -1, -1, 50 - n);
        }
        x.take(0, 0);
    }

    private static void deathsOfThatProcessOnly() {
        Checked x = Checked.managed(3, "deathsOfThatProcessOnly");
        x.lendNodes(11);
        int[] handles = {11, 1, 11, 2, 11};
        for (int n = 0; n < handles.length; n++) {
            x.watch(0, handles[n], n, true);
        }
        x.die(1);
        x.count(0, 6, 3);
        x.count(0, 1, 2);
        x.takes(0, 4, -1, -1, -1, 1);
        x.takes(0, 4, -1, -1, -1, 3);
        x.die(2);
        x.count(0, 6, 0);
        x.takes(0, 4, -1, -1, -1, 0);
        x.takes(0, 4, -1, -1, -1, 2);
        x.takes(0, 4, -1, -1, -1, 4);
    }

    private static void deathOnceOnly() {
        Checked x = Checked.managed(2, "deathOnceOnly");
        x.lendNodes(1);
        x.watch(0, 1, 7, true);
        x.die(1);
        x.count(0, 1, 1);
        x.born(1);
        x.serve(1, 0, true);
        x.die(1);
        x.count(0, 1, 1);
        x.count(0, 6, 0);
    }

    private static void noDeathForTheDeadWatcher() {
        Checked x = Checked.managed(3, "noDeathForTheDeadWatcher");
        x.lendNodes(1);
        x.watch(0, 1, 7, true);
        x.reborn(0);
        x.die(1);
        x.hasNothing(0);
    }

    /** "One-way messages that wait for its nodes are no more." */
    private static void waitingOneWaysAreNoMore() {
        Checked x = Checked.managed(2, "waitingOneWaysAreNoMore");
        x.sendCells(1, 0, 2, true, 0);
        x.sendCells(1, 0, 3, true, 0);
        x.sendCells(1, 0, 4, true, 0);
        x.take(0, 2);
        x.reborn(0);
        x.hasNothing(0);
        x.serve(0, 0, true);
        x.manage(0, 0, true);
        x.sendCells(1, 0, 20, true, 0);
        x.takes(0, 2, 0, 0, 1, 0);
        x.free(0, 0, true);
        x.take(0, 0);
        x.count(0, 5, 0);
    }

    /** "(What it has sent lies on where it is.)" */
    private static void sentLiesOnInInbox() {
        Checked x = Checked.managed(2, "sentLiesOnInInbox");
        x.serve(1, 7, true);
        x.item(1, 1, 7, true);
        x.item(1, 0, -9, true);
        x.send(1, 0, false, 0);
        x.reborn(1);
        x.count(0, 1, 1);
        x.count(0, 4, 2);
        x.takes(0, 1, 0, 0, 1, 0);
        x.reads(0, 0, 0, 2, 1);
        x.reads(0, 0, 1, 0, -9);
        x.handleIs(0, 1, 1, 0, 1, 7, 1);
        x.free(0, 0, true);
        x.count(0, 0, 0);
        x.count(0, 2, 1);
        x.reply(0, -2);
    }

    private static void sentLiesOnWaiting() {
        Checked x = Checked.managed(2, "sentLiesOnWaiting");
        x.sendCells(1, 0, 2, true, 0);
        x.sendCells(1, 0, 3, true, 0);
        x.sendCells(1, 0, 4, true, 0);
        x.die(1);
        x.count(0, 5, 9);
        x.takes(0, 2, 0, 0, 1, 0);
        x.free(0, 0, true);
        x.takes(0, 2, 0, 2, 1, 0);
        x.free(0, 2, true);
        x.takes(0, 2, 0, 5, 1, 0);
        x.read(0, 5, 0, 2, 4);
    }

    private static void sentLiesOnTaken() {
        Checked x = Checked.managed(2, "sentLiesOnTaken");
        x.serve(1, 7, true);
        x.draft(1, 3, true);
        x.item(1, 1, 7, true);
        x.send(1, 0, true, 0);
        x.take(0, 2);
        x.die(1);
        x.latestIs(0, 2, 0, 0, 1, 0);
        x.read(0, 0, 0, 2, 4);
        x.reads(0, 0, 0, 2, 1);
        x.free(0, 0, true);
        x.count(0, 0, 0);
    }

    private static void sentReplyLiesOn() {
        Checked x = Checked.managed(2, "sentReplyLiesOn");
        x.send(1, 0, false, 0);
        x.take(0, 1);
        x.item(0, 1, 0, true);
        x.reply(0, 0);
        x.reborn(0);
        x.takes(1, 3, -1, 0, 0, 0);
        x.reads(1, 0, 0, 2, 1);
        x.handleIs(1, 1, 1, 0, 0, 0, 1);
        x.send(1, 1, true, -2);
    }
}
