/** Promise 16: watch. */
public final class WatchTest {
    public static void main(String[] args) {
        noSuchHandle();
        toldOnce();
        withoutHandle();
        atOnce();
        eightWatches();
        twentyFourTogether();
        deathsIntoFullInbox();
        watcherDies();
        Checked.end();
    }

    private static Checked withHandle(int living, String name) {
        Checked x = Checked.managed(living, name);
        x.serve(1, 5, true);
        x.lend(1, 5, 1);
        return x;
    }

    private static void noSuchHandle() {
        Checked x = withHandle(2, "noSuchHandle");
        int[] none = {0, -1, 2, 15, 16, Integer.MIN_VALUE, Integer.MAX_VALUE};
        for (int handle : none) {
            x.watch(0, handle, 1, false);
        }
        x.watch(1, 1, 1, false);
        x.count(0, 6, 0);
        x.count(0, 1, 0);
    }

    private static void toldOnce() {
        Checked x = withHandle(2, "toldOnce");
        x.watch(0, 1, Integer.MIN_VALUE, true);
        x.count(0, 6, 1);
        x.count(0, 1, 0);
        x.die(1);
        x.count(0, 6, 0);
        x.takes(0, 4, -1, -1, -1, Integer.MIN_VALUE);
        x.born(1);
        x.reborn(1);
        x.take(0, 0);
    }

    private static void withoutHandle() {
        Checked x = withHandle(2, "withoutHandle");
        x.hold(0, 1, false, true);
        x.drop(0, 1, true, true);
        x.watch(0, 1, 3, true);
        x.drop(0, 1, false, true);
        x.noHandle(0, 1);
        x.count(0, 6, 1);
        x.serve(1, 6, true);
        x.lend(1, 6, 1);
        x.die(1);
        x.takes(0, 4, -1, -1, -1, 3);
        x.take(0, 0);
    }

    private static void atOnce() {
        Checked x = withHandle(2, "atOnce");
        x.die(1);
        x.watch(0, 1, 3, true);
        x.watch(0, 1, 4, true);
        x.count(0, 6, 0);
        x.count(0, 1, 2);
        x.born(1);
        x.watch(0, 1, 5, true);
        x.takes(0, 4, -1, -1, -1, 3);
        x.takes(0, 4, -1, -1, -1, 4);
        x.takes(0, 4, -1, -1, -1, 5);
        x.take(0, 0);
    }

    private static void eightWatches() {
        Checked x = withHandle(3, "eightWatches");
        x.serve(2, 0, true);
        x.lend(2, 0, 2);
        for (int n = 0; n < 8; n++) {
            x.watch(0, 1 + n % 2, n, true);
        }
        x.watch(0, 1, 8, false);
        x.watch(0, 2, 8, false);
        x.count(0, 6, 8);
        x.die(2);
        x.count(0, 6, 4);
        for (int n = 1; n < 8; n += 2) {
            x.takes(0, 4, -1, -1, -1, n);
        }
        for (int n = 0; n < 4; n++) {
            x.watch(0, 1, n, true);
        }
        x.watch(0, 2, 8, false);
        x.count(0, 1, 0);
        x.die(1);
        x.count(0, 1, 8);
        x.watch(0, 2, 8, true);
        x.count(0, 1, 9);
    }

    private static void twentyFourTogether() {
        Checked x = withHandle(3, "twentyFourTogether");
        x.serve(2, 0, true);
        x.lend(2, 0, 2);
        x.die(2);
        for (int n = 0; n < 5; n++) {
            x.watch(0, 1, n, true);
        }
        for (int n = 0; n < 19; n++) {
            x.watch(0, 2, n, true);
        }
        x.count(0, 1, 19);
        x.count(0, 6, 5);
        x.watch(0, 1, 9, false);
        x.watch(0, 2, 9, false);
        x.take(0, 4);
        x.watch(0, 1, 9, true);
        x.watch(0, 2, 9, false);
        x.count(0, 6, 6);
        x.die(1);
        x.count(0, 1, 24);
        x.watch(0, 2, 9, false);
        x.take(0, 4);
        x.watch(0, 2, 9, true);
        x.count(0, 1, 24);
        x.count(0, 6, 0);
    }

    private static void deathsIntoFullInbox() {
        Checked x = withHandle(3, "deathsIntoFullInbox");
        for (int n = 0; n < 8; n++) {
            x.watch(0, 1, n, true);
        }
        for (int n = 0; n < 12; n++) {
            x.send(2, 0, false, 0);
            x.reborn(2);
        }
        x.die(1);
        x.count(0, 1, 20);
        x.watch(0, 1, 8, true);
        x.count(0, 1, 21);
        for (int n = 0; n < 12; n++) {
            x.take(0, 1);
        }
        for (int n = 0; n < 9; n++) {
            x.takes(0, 4, -1, -1, -1, n);
        }
    }

    private static void watcherDies() {
        Checked x = withHandle(2, "watcherDies");
        x.watch(0, 1, 3, true);
        x.reborn(0);
        x.count(0, 6, 0);
        x.die(1);
        x.take(0, 0);
    }
}
