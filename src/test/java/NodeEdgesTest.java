/** Edges of promises 4 and 5: serve, manage. */
public final class NodeEdgesTest {
    private static final int[] NO_KEYS = {-1, 10, Integer.MIN_VALUE, Integer.MAX_VALUE};

    public static void main(String[] args) {
        serveAllTen();
        serveAgain();
        serveWithoutSuchKey();
        serveAfterRebirth();
        serveOfTheDead();
        manageWithoutNode();
        manageWhenThereIsOne();
        manageAfterItsDeath();
        manageAfterTheDeathOfOthers();
        manageTheEnds();
        Checked.end();
    }

    /** "Process p has a node with a key: true" */
    private static void serveAllTen() {
        Checked x = Checked.managed(2, "serveAllTen");
        for (int key = 9; key >= 0; key--) {
            x.serve(1, key, true);
        }
        for (int key = 0; key <= 9; key++) {
            x.lend(1, key, key + 1);
            x.handleIs(0, key + 1, 1, 0, 1, key, 0);
        }
    }

    /** "false when it has one" */
    private static void serveAgain() {
        Checked x = Checked.managed(2, "serveAgain");
        int[] keys = {0, 9};
        for (int key : keys) {
            x.serve(1, key, true);
            x.serve(1, key, false);
        }
        x.serve(0, 9, true);
        x.serve(0, 0, false);
        x.sendCells(1, 0, 2, true, 0);
        x.sendCells(1, 0, 3, true, 0);
        x.serve(0, 0, false);
        x.take(0, 2);
        x.free(0, 0, true);
        x.takes(0, 2, 0, 2, 1, 0);
    }

    /** "or key is not 0 .. 9" */
    private static void serveWithoutSuchKey() {
        Checked x = Checked.with(1, "serveWithoutSuchKey");
        for (int key : NO_KEYS) {
            x.serve(0, key, false);
            x.serve(0, key, false);
        }
    }

    private static void serveAfterRebirth() {
        Checked x = Checked.with(1, "serveAfterRebirth");
        x.serve(0, 9, true);
        x.reborn(0);
        x.serve(0, 9, true);
        x.serve(0, 9, false);
    }

    /** "IllegalStateException when it is not alive (so in all calls below)" */
    private static void serveOfTheDead() {
        Checked x = Checked.managed(4, "serveOfTheDead");
        x.lendNodes(3);
        x.send(1, 0, false, 0);
        x.die(1);
        x.everyCallRaises(1, Checked.STATE);
        x.born(1);
        x.hasNothing(1);
        x.die(0);
        x.everyCallRaises(0, Checked.STATE);
    }

    /** "false when there is none with that key" */
    private static void manageWithoutNode() {
        Checked x = Checked.with(2, "manageWithoutNode");
        x.serve(0, 0, true);
        x.serve(1, 9, true);
        x.manage(0, 9, false);
        x.manage(1, 0, false);
        x.manage(0, 1, false);
        for (int key : NO_KEYS) {
            x.manage(0, key, false);
        }
        x.send(1, 0, true, -1);
        x.manage(0, 0, true);
    }

    /** "or there is a manager" */
    private static void manageWhenThereIsOne() {
        Checked x = Checked.managed(2, "manageWhenThereIsOne");
        x.serve(0, 1, true);
        x.serve(1, 0, true);
        x.manage(0, 0, false);
        x.manage(0, 1, false);
        x.manage(1, 0, false);
        x.manage(1, 5, false);
        x.send(1, 0, true, 0);
        x.takes(0, 2, 0, 0, 1, 0);
    }

    private static void manageAfterItsDeath() {
        Checked x = Checked.managed(2, "manageAfterItsDeath");
        x.serve(1, 5, true);
        x.die(0);
        x.manage(1, 5, true);
        x.born(0);
        x.serve(0, 0, true);
        x.manage(0, 0, false);
        x.send(0, 0, true, 0);
        x.takes(1, 2, 5, 0, 0, 0);
    }

    private static void manageAfterTheDeathOfOthers() {
        Checked x = Checked.managed(3, "manageAfterTheDeathOfOthers");
        x.serve(2, 5, true);
        x.die(1);
        x.manage(2, 5, false);
        x.reborn(2);
        x.serve(2, 5, true);
        x.manage(2, 5, false);
    }

    private static void manageTheEnds() {
        int[][] ends = {{0, 0}, {0, 9}, {3, 0}, {3, 9}};
        for (int[] end : ends) {
            Checked x = Checked.with(4, "manageTheEnds");
            x.serve(end[0], end[1], true);
            x.manage(end[0], end[1], true);
            x.send(1, 0, true, 0);
            x.takes(end[0], 2, end[1], 0, 1, 0);
        }
    }
}
