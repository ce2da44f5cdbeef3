/** Promises 4 and 5: serve, manage; and that all calls look at p in the same way. */
public final class NodeTest {
    public static void main(String[] args) {
        serveOnce();
        reborn();
        manageOnce();
        wrongProcesses();
        Checked.end();
    }

    private static void serveOnce() {
        Checked x = Checked.with(2, "serveOnce");
        for (int key = 0; key <= 9; key++) {
            x.serve(0, key, true);
        }
        for (int key = 0; key <= 9; key++) {
            x.serve(0, key, false);
            x.serve(1, key, true);
        }
        int[] wrong = {-1, 10, Integer.MIN_VALUE, Integer.MAX_VALUE};
        for (int key : wrong) {
            x.serve(0, key, false);
            x.manage(0, key, false);
        }
    }

    private static void reborn() {
        Checked x = Checked.with(2, "reborn");
        x.serve(0, 3, true);
        x.reborn(0);
        x.manage(0, 3, false);
        x.serve(0, 3, true);
        x.manage(0, 3, true);
    }

    private static void manageOnce() {
        Checked x = Checked.with(2, "manageOnce");
        x.manage(0, 5, false);
        x.serve(0, 5, true);
        x.serve(0, 6, true);
        x.serve(1, 5, true);
        x.manage(1, 6, false);
        x.manage(0, 5, true);
        x.manage(0, 5, false);
        x.manage(0, 6, false);
        x.manage(1, 5, false);
        x.send(1, 0, true, 0);
        x.takes(0, 2, 5, 0, 1, 0);
        x.die(1);
        x.send(0, 0, true, 0);
        x.die(0);
        x.born(1);
        x.serve(1, 5, true);
        x.manage(1, 5, true);
    }

    private static void wrongProcesses() {
        Checked x = Checked.with(2, "wrongProcesses");
        int[] none = {-1, 4, Integer.MIN_VALUE, Integer.MAX_VALUE};
        for (int p : none) {
            x.everyCallRaises(p, Checked.ARGUMENT);
        }
        x.die(1);
        x.everyCallRaises(1, Checked.STATE);
        x.everyCallRaises(3, Checked.STATE);
        x.hasNothing(0);
    }
}
