/** Promises 1 to 3: a new object, born, die. */
public final class LifeTest {
    public static void main(String[] args) {
        newObject();
        bornHasNothing();
        wrongProcesses();
        deathTakesAll();
        deathTakesHandles();
        deathOfManager();
        failedForCallers();
        noFailedWithoutCall();
        noFailedForAnotherLife();
        failedBeforeDeaths();
        deathsInOrder();
        failedIntoFullInbox();
        sentLiesOn();
        waitingOneWaysAreNoMore();
        Checked.end();
    }

    private static void newObject() {
        Checked x = new Checked("newObject");
        for (int p = 0; p < 4; p++) {
            int q = p;
            x.raises("count on one not born", Checked.STATE, d -> d.count(q, 0));
            x.raises("die on one not born", Checked.STATE, d -> d.die(q));
        }
        x.born(3);
        x.send(3, 0, true, -1);
        x.serve(3, 0, true);
        x.manage(3, 0, true);
        Checked other = Checked.with(4, "newObject beside another");
        other.send(3, 0, true, -1);
    }

    private static void bornHasNothing() {
        Checked x = new Checked("bornHasNothing");
        for (int p = 0; p < 4; p++) {
            x.born(p);
            x.hasNothing(p);
            x.manage(p, 0, false);
        }
    }

    private static void wrongProcesses() {
        Checked x = new Checked("wrongProcesses");
        int[] none = {-1, 4, Integer.MIN_VALUE, Integer.MAX_VALUE};
        for (int p : none) {
            x.raises("born(" + p + ")", Checked.ARGUMENT, d -> d.born(p));
            x.raises("die(" + p + ")", Checked.ARGUMENT, d -> d.die(p));
        }
        x.born(2);
        x.raises("born twice", Checked.STATE, d -> d.born(2));
        x.die(2);
        x.raises("die twice", Checked.STATE, d -> d.die(2));
        x.born(2);
        x.hasNothing(2);
    }

    private static void deathTakesAll() {
        Checked x = Checked.managed(3, "deathTakesAll");
        x.serve(1, 4, true);
        x.lend(1, 4, 1);
        x.watch(0, 1, 5, true);
        x.sendCells(1, 0, 3, false, 0);
        x.take(0, 1);
        x.sendCells(2, 0, 4, false, 0);
        x.sendCells(2, 0, 2, true, 0);
        x.sendCells(2, 0, 2, true, 0);
        x.draft(0, 6, true);
        x.item(0, 0, 1, true);
        x.send(0, 0, false, 0);
        x.draft(0, 6, true);
        x.item(0, 0, 1, true);
        int[] before = {1, 3, 1, 1, 18, 4, 1, 1};
        for (int what = 0; what <= 7; what++) {
            x.count(0, what, before[what]);
        }
        x.reborn(0);
        x.hasNothing(0);
        x.manage(0, 0, false);
        x.serve(0, 0, true);
        x.manage(0, 0, true);
        x.draft(1, 0, true);
        x.send(1, 0, true, 0);
        x.take(0, 2);
        x.read(0, 0, 0, 2, 1);
        x.die(1);
        x.count(0, 1, 0);
    }

    private static void deathTakesHandles() {
        Checked x = Checked.managed(3, "deathTakesHandles");
        for (int key = 0; key <= 9; key++) {
            x.serve(1, key, true);
            x.serve(2, key, true);
        }
        lendFifteen(x);
        for (int handle = 1; handle <= 15; handle++) {
            x.hold(0, handle, true, true);
            x.hold(0, handle, false, true);
        }
        x.reborn(0);
        x.hasNothing(0);
        x.serve(0, 0, true);
        x.manage(0, 0, true);
        lendFifteen(x);
        x.handleIs(0, 1, 1, 0, 1, 0, 0);
        x.handleIs(0, 10, 1, 0, 1, 9, 0);
        x.handleIs(0, 15, 1, 0, 2, 4, 0);
    }

    private static void lendFifteen(Checked x) {
        for (int handle = 1; handle <= 15; handle++) {
            int p = handle <= 10 ? 1 : 2;
            int key = (handle - 1) % 10;
            x.lend(p, key, handle);
        }
    }

    private static void deathOfManager() {
        Checked x = Checked.managed(2, "deathOfManager");
        x.serve(1, 3, true);
        x.manage(1, 3, false);
        x.die(0);
        x.send(1, 0, true, -1);
        x.item(1, 2, 0, true);
        x.manage(1, 3, true);
        x.send(1, 0, true, 0);
        x.take(1, 2);
        x.reads(1, 0, 0, 1, 3);
        x.born(0);
        x.reborn(0);
        x.send(0, 0, true, 0);
    }

    private static void failedForCallers() {
        Checked x = Checked.managed(4, "failedForCallers");
        x.send(3, 0, false, 0);
        x.send(1, 0, false, 0);
        x.send(0, 0, false, 0);
        x.take(0, 1);
        x.send(2, 0, true, 0);
        x.die(0);
        x.count(1, 1, 1);
        x.count(1, 3, 1);
        x.count(3, 1, 1);
        x.count(2, 1, 0);
        x.takes(1, 5, -1, -1, -1, 0);
        x.takes(3, 5, -1, -1, -1, 0);
        x.count(1, 3, 0);
        x.count(3, 3, 0);
        x.born(0);
        x.hasNothing(0);
    }

    private static void noFailedWithoutCall() {
        Checked x = Checked.managed(3, "noFailedWithoutCall");
        x.send(1, 0, false, 0);
        x.take(0, 1);
        x.reply(0, 0);
        x.die(0);
        x.count(1, 1, 1);
        x.count(1, 3, 1);
        x.takes(1, 3, -1, 0, 0, 0);
        x.take(1, 0);
        x.count(1, 3, 0);
    }

    private static void noFailedForAnotherLife() {
        Checked x = Checked.managed(3, "noFailedForAnotherLife");
        x.send(1, 0, false, 0);
        x.take(0, 1);
        x.reborn(1);
        x.send(2, 0, false, 0);
        x.reborn(2);
        x.send(2, 0, false, 0);
        x.die(0);
        x.count(1, 1, 0);
        x.count(2, 1, 1);
        x.take(2, 5);
        x.take(2, 0);
    }

    private static void failedBeforeDeaths() {
        Checked x = Checked.managed(3, "failedBeforeDeaths");
        x.serve(1, 7, true);
        x.serve(1, 8, true);
        x.lend(1, 7, 1);
        x.watch(0, 1, 70, true);
        x.item(0, 0, 0, true);
        x.send(0, 1, false, 0);
        x.die(1);
        x.takes(0, 5, -1, -1, -1, 0);
        x.takes(0, 4, -1, -1, -1, 70);
        x.take(0, 0);
    }

    private static void deathsInOrder() {
        Checked x = Checked.managed(4, "deathsInOrder");
        x.serve(1, 7, true);
        x.serve(1, 2, true);
        x.serve(2, 5, true);
        x.lend(1, 7, 1);
        x.lend(2, 5, 2);
        x.lend(1, 2, 3);
        x.watch(0, 3, 30, true);
        x.watch(0, 2, 20, true);
        x.watch(0, 1, 10, true);
        x.watch(0, 3, 31, true);
        x.watch(0, 3, 30, true);
        x.count(0, 6, 5);
        x.die(1);
        x.count(0, 6, 1);
        x.count(0, 1, 4);
        x.takes(0, 4, -1, -1, -1, 30);
        x.takes(0, 4, -1, -1, -1, 10);
        x.takes(0, 4, -1, -1, -1, 31);
        x.takes(0, 4, -1, -1, -1, 30);
        x.born(1);
        x.reborn(1);
        x.count(0, 1, 0);
        x.die(2);
        x.takes(0, 4, -1, -1, -1, 20);
        x.count(0, 6, 0);
    }

    private static void failedIntoFullInbox() {
        Checked x = Checked.managed(3, "failedIntoFullInbox");
        x.serve(1, 7, true);
        x.lend(1, 7, 1);
        x.watch(0, 1, -4, true);
        x.send(0, 1, false, 0);
        for (int n = 0; n < 12; n++) {
            x.send(2, 0, false, 0);
            x.reborn(2);
        }
        x.send(2, 0, false, -4);
        x.die(1);
        x.count(0, 1, 14);
        for (int n = 0; n < 12; n++) {
            x.takes(0, 1, 0, n, 2, 0);
        }
        x.takes(0, 5, -1, -1, -1, 0);
        x.takes(0, 4, -1, -1, -1, -4);
    }

    private static void sentLiesOn() {
        Checked x = Checked.managed(2, "sentLiesOn");
        x.serve(1, 7, true);
        x.item(1, 1, 7, true);
        x.item(1, 0, -9, true);
        x.send(1, 0, false, 0);
        x.sendCells(1, 0, 5, true, 0);
        x.sendCells(1, 0, 6, true, 0);
        x.die(1);
        x.count(0, 1, 2);
        x.count(0, 4, 13);
        x.handleIs(0, 1, 1, 0, 1, 7, 1);
        x.takes(0, 1, 0, 0, 1, 0);
        x.reads(0, 0, 0, 2, 1);
        x.reads(0, 0, 1, 0, -9);
        x.takes(0, 2, 0, 2, 1, 0);
        x.free(0, 2, true);
        x.takes(0, 2, 0, 7, 1, 0);
    }

    private static void waitingOneWaysAreNoMore() {
        Checked x = Checked.managed(2, "waitingOneWaysAreNoMore");
        x.sendCells(1, 0, 5, true, 0);
        x.sendCells(1, 0, 6, true, 0);
        x.take(0, 2);
        x.reborn(0);
        x.free(0, 0, false);
        x.serve(0, 0, true);
        x.manage(0, 0, true);
        x.sendCells(1, 0, 7, true, 0);
        x.takes(0, 2, 0, 0, 1, 0);
        x.free(0, 0, true);
        x.count(0, 1, 0);
        x.count(0, 4, 0);
    }
}
