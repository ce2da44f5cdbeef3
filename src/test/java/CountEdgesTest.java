/** Edges of promise 17: count, of each what the least and the most that there can be. */
public final class CountEdgesTest {
    public static void main(String[] args) {
        nothing();
        fifteenHandles();
        worksInTheInbox();
        twelveOpen();
        waitsOrNot();
        cellsInUse();
        cellsOfOneWays();
        eightWatches();
        fourItems();
        anotherWhat();
        Checked.end();
    }

    private static void nothing() {
        Checked x = Checked.with(4, "nothing");
        for (int p = 0; p <= 3; p++) {
            for (int what = 0; what <= 7; what++) {
                x.count(p, what, 0);
            }
        }
    }

    /** "0 how many handles p has" */
    private static void fifteenHandles() {
        Checked x = Checked.managed(3, "fifteenHandles");
        x.lendNodes(15);
        x.count(0, 0, 15);
        x.hold(0, 15, false, true);
        x.drop(0, 15, true, true);
        x.count(0, 0, 15);
        x.drop(0, 15, false, true);
        x.count(0, 0, 14);
        x.die(1);
        x.count(0, 0, 14);
    }

    /** "1 how many works are in its inbox" */
    private static void worksInTheInbox() {
        Checked x = Checked.managed(4, "worksInTheInbox");
        x.lendNodes(1);
        x.watch(0, 1, 1, true);
        x.send(0, 1, false, 0);
        x.fillInbox(11);
        x.count(0, 1, 11);
        x.send(2, 0, true, 0);
        x.count(0, 1, 12);
        x.send(2, 0, true, 0);
        x.count(0, 1, 12);
        x.die(1);
        x.count(0, 1, 14);
        x.take(0, 1);
        x.count(0, 1, 13);
    }

    /** "2 how many calls are open" */
    private static void twelveOpen() {
        Checked x = Checked.managed(4, "twelveOpen");
        for (int n = 0; n < 12; n++) {
            x.count(0, 2, n);
            x.send(3, 0, false, 0);
            x.count(0, 2, n);
            x.take(0, 1);
            x.reborn(3);
        }
        x.count(0, 2, 12);
        x.send(3, 0, false, 0);
        x.take(0, 0);
        x.count(0, 2, 12);
        x.reply(0, -2);
        x.count(0, 2, 11);
    }

    /** "3 whether it waits" */
    private static void waitsOrNot() {
        Checked x = Checked.managed(2, "waitsOrNot");
        x.send(1, 0, true, 0);
        x.count(1, 3, 0);
        x.send(1, 0, false, 0);
        x.count(1, 3, 1);
        x.count(0, 3, 0);
        x.take(0, 2);
        x.take(0, 1);
        x.reply(0, 0);
        x.count(1, 3, 1);
        x.take(1, 3);
        x.count(1, 3, 0);
        x.send(1, 0, false, 0);
        x.reborn(1);
        x.count(1, 3, 0);
    }

    /** "4 cells of its area in use" */
    private static void cellsInUse() {
        Checked x = Checked.managed(4, "cellsInUse");
        x.lay(20, 20, 20);
        x.count(0, 4, 60);
        x.sendCells(1, 0, 3, true, 0);
        x.count(0, 4, 63);
        x.sendCells(2, 0, 0, false, 0);
        x.count(0, 4, 64);
        x.count(0, 5, 3);
        x.take(0, 2);
        x.count(0, 4, 64);
        x.free(0, 60, true);
        x.count(0, 4, 61);
        x.count(1, 4, 0);
    }

    /** "5 those of them for one-way messages" */
    private static void cellsOfOneWays() {
        Checked x = Checked.managed(4, "cellsOfOneWays");
        x.sendCells(1, 0, 20, true, 0);
        x.sendCells(1, 0, 11, true, 0);
        x.count(0, 5, 31);
        x.send(1, 0, true, 0);
        x.count(0, 5, 32);
        x.sendCells(1, 0, 5, false, 0);
        x.count(0, 5, 32);
        x.count(0, 4, 37);
        x.take(0, 2);
        x.free(0, 0, true);
        x.count(0, 5, 12);
        x.take(0, 1);
        x.free(0, 32, true);
        x.count(0, 5, 12);
        x.count(0, 4, 12);
    }

    /** "6 its watches" */
    private static void eightWatches() {
        Checked x = Checked.managed(2, "eightWatches");
        x.lendNodes(1);
        for (int n = 0; n < 8; n++) {
            x.count(0, 6, n);
            x.watch(0, 1, n, true);
        }
        x.count(0, 6, 8);
        x.watch(0, 1, 8, false);
        x.count(0, 6, 8);
        x.die(1);
        x.count(0, 6, 0);
        x.watch(0, 1, 8, true);
        x.count(0, 6, 0);
    }

    /** "7 items of its draft" */
    private static void fourItems() {
        Checked x = Checked.with(1, "fourItems");
        x.draft(0, 20, true);
        x.count(0, 7, 0);
        for (int n = 1; n <= 4; n++) {
            x.item(0, n % 3, 0, true);
            x.count(0, 7, n);
        }
        x.item(0, 0, 0, false);
        x.count(0, 7, 4);
        x.draft(0, 20, true);
        x.count(0, 7, 0);
    }

    /** "-1 for another what" */
    private static void anotherWhat() {
        Checked x = Checked.managed(2, "anotherWhat");
        x.item(0, 0, 0, true);
        x.send(1, 0, false, 0);
        int[] none = {-1, 8, 9, Integer.MIN_VALUE, Integer.MAX_VALUE};
        for (int what : none) {
            x.count(0, what, -1);
            x.count(1, what, -1);
            x.raises("count(3, " + what + ")", Checked.STATE, d -> d.count(3, what));
            x.raises("count(-1, " + what + ")", Checked.ARGUMENT, d -> d.count(-1, what));
        }
    }
}
