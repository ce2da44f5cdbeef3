/** Edges of promise 16: watch. */
public final class WatchEdgesTest {
    public static void main(String[] args) {
        noSuchHandle();
        weakHandleIsEnough();
        asOftenAsOneLikes();
        alsoWhenTheHandleGoes();
        atOnceIfItIsDead();
        atOnceIntoFullInbox();
        eightWatches();
        eightWatchesAndADeadNode();
        watchesOfEachProcess();
        twentyFourTogether();
        twentyFourWorks();
        moreThanTwentyFour();
        roomAgain();
        Checked.end();
    }

    /** "Watches the node of a handle (not 0" and "false when there is no such handle" */
    private static void noSuchHandle() {
        Checked x = Checked.managed(2, "noSuchHandle");
        x.lendNodes(2);
        x.drop(0, 2, true, true);
        int[] none = {0, 2, -1, 15, 16, Integer.MIN_VALUE, Integer.MAX_VALUE};
        for (int handle : none) {
            x.watch(0, handle, 1, false);
        }
        x.watch(1, 1, 1, false);
        x.watch(1, 0, 1, false);
        x.count(0, 6, 0);
        x.die(1);
        x.watch(0, 2, 1, false);
        x.watch(0, 0, 1, false);
        x.count(0, 1, 0);
    }

    private static void weakHandleIsEnough() {
        Checked x = Checked.managed(2, "weakHandleIsEnough");
        x.lendNodes(1);
        x.hold(0, 1, false, true);
        x.drop(0, 1, true, true);
        x.watch(0, 1, 6, true);
        x.die(1);
        x.watch(0, 1, 7, true);
        x.takes(0, 4, -1, -1, -1, 6);
        x.takes(0, 4, -1, -1, -1, 7);
    }

    /** "as often as one likes" */
    private static void asOftenAsOneLikes() {
        Checked x = Checked.managed(2, "asOftenAsOneLikes");
        x.lendNodes(1);
        for (int n = 1; n <= 8; n++) {
            x.watch(0, 1, 5, true);
            x.count(0, 6, n);
        }
        x.count(0, 1, 0);
        x.die(1);
        x.count(0, 1, 8);
        x.count(0, 6, 0);
    }

    /** "also when the handle goes later" */
    private static void alsoWhenTheHandleGoes() {
        Checked x = Checked.managed(3, "alsoWhenTheHandleGoes");
        x.lendNodes(1);
        x.watch(0, 1, 5, true);
        x.drop(0, 1, true, true);
        x.count(0, 6, 1);
        x.serve(2, 3, true);
        x.lend(2, 3, 1);
        x.die(2);
        x.count(0, 1, 0);
        x.die(1);
        x.takes(0, 4, -1, -1, -1, 5);
    }

    /** "at once if it is dead" */
    private static void atOnceIfItIsDead() {
        Checked x = Checked.managed(3, "atOnceIfItIsDead");
        x.lendNodes(1);
        x.die(1);
        x.watch(0, 1, 5, true);
        x.count(0, 6, 0);
        x.count(0, 1, 1);
        x.send(2, 0, true, 0);
        x.born(1);
        x.watch(0, 1, 6, true);
        x.count(0, 1, 3);
        x.takes(0, 4, -1, -1, -1, 5);
        x.take(0, 2);
        x.takes(0, 4, -1, -1, -1, 6);
        x.die(1);
        x.count(0, 1, 0);
    }

    private static void atOnceIntoFullInbox() {
        Checked x = Checked.managed(4, "atOnceIntoFullInbox");
        x.lendNodes(1);
        x.die(1);
        x.fillInbox(12);
        x.watch(0, 1, 5, true);
        x.count(0, 1, 13);
    }

    /** "8 watches are there" */
    private static void eightWatches() {
        Checked x = Checked.managed(3, "eightWatches");
        x.lendNodes(11);
        for (int n = 1; n <= 7; n++) {
            x.watch(0, n, n, true);
        }
        x.watch(0, 11, 8, true);
        x.count(0, 6, 8);
        x.watch(0, 11, 9, false);
        x.watch(0, 1, 9, false);
        x.die(2);
        x.count(0, 6, 7);
        x.watch(0, 1, 10, true);
        x.watch(0, 1, 11, false);
        x.die(1);
        x.count(0, 1, 9);
        int[] cookies = {8, 1, 2, 3, 4, 5, 6, 7, 10};
        for (int cookie : cookies) {
            x.takes(0, 4, -1, -1, -1, cookie);
        }
    }

    private static void eightWatchesAndADeadNode() {
        Checked x = Checked.managed(3, "eightWatchesAndADeadNode");
        x.lendNodes(11);
        x.die(2);
        for (int n = 1; n <= 7; n++) {
            x.watch(0, n, n, true);
        }
        x.watch(0, 11, 9, true);
        x.watch(0, 11, 9, true);
        x.watch(0, 8, 8, true);
        x.watch(0, 11, 9, false);
        x.count(0, 6, 8);
        x.count(0, 1, 2);
    }

    private static void watchesOfEachProcess() {
        Checked x = Checked.managed(3, "watchesOfEachProcess");
        x.lendNodes(11);
        for (int n = 1; n <= 8; n++) {
            x.watch(0, 1, n, true);
        }
        x.item(0, 2, 1, true);
        x.send(0, 11, true, 0);
        x.watch(2, 1, 77, true);
        x.watch(0, 1, 9, false);
        x.die(1);
        x.count(0, 1, 8);
        x.take(2, 2);
        x.takes(2, 4, -1, -1, -1, 77);
        x.take(2, 0);
    }

    /** "or works in the inbox and watches are 24 together" */
    private static void twentyFourTogether() {
        Checked x = Checked.managed(4, "twentyFourTogether");
        x.lendNodes(11);
        x.die(2);
        for (int n = 0; n < 7; n++) {
            x.watch(0, 1, n, true);
        }
        x.fillInbox(12);
        for (int n = 0; n < 4; n++) {
            x.watch(0, 11, n, true);
        }
        x.count(0, 1, 16);
        x.count(0, 6, 7);
        x.watch(0, 1, 8, true);
        x.watch(0, 1, 9, false);
        x.watch(0, 11, 9, false);
        x.count(0, 1, 16);
        x.count(0, 6, 8);

        Checked y = Checked.managed(4, "twentyFourTogether, at once");
        y.lendNodes(11);
        y.die(2);
        for (int n = 0; n < 7; n++) {
            y.watch(0, 1, n, true);
        }
        for (int n = 0; n < 17; n++) {
            y.watch(0, 11, n, true);
        }
        y.watch(0, 11, 17, false);
        y.watch(0, 1, 17, false);
        y.count(0, 1, 17);
        y.count(0, 6, 7);
    }

    private static void twentyFourWorks() {
        Checked x = Checked.managed(2, "twentyFourWorks");
        x.lendNodes(1);
        x.die(1);
        for (int n = 0; n < 24; n++) {
            x.count(0, 1, n);
            x.watch(0, 1, n, true);
        }
        x.watch(0, 1, 24, false);
        x.count(0, 1, 24);
        x.take(0, 4);
        x.watch(0, 1, 25, true);
        x.watch(0, 1, 26, false);
    }

    private static void moreThanTwentyFour() {
        Checked x = Checked.managed(3, "moreThanTwentyFour");
        x.lendNodes(1);
        x.send(0, 1, false, 0);
        x.send(2, 0, true, 0);
        x.send(2, 0, true, 0);
        x.take(0, 2);
        x.die(1);
        for (int n = 1; n < 24; n++) {
            x.watch(0, 1, n, true);
        }
        x.watch(0, 1, 24, false);
        x.free(0, 0, true);
        x.count(0, 1, 25);
        x.watch(0, 1, 25, false);
        x.take(0, 5);
        x.count(0, 1, 24);
        x.watch(0, 1, 25, false);
        x.take(0, 4);
        x.watch(0, 1, 25, true);
        x.watch(0, 1, 26, false);
    }

    private static void roomAgain() {
        Checked x = Checked.managed(2, "roomAgain");
        x.lendNodes(2);
        for (int n = 0; n < 8; n++) {
            x.watch(0, 1, n, true);
        }
        x.die(1);
        for (int n = 8; n < 24; n++) {
            x.watch(0, 2, n, true);
        }
        x.watch(0, 2, 24, false);
        for (int n = 0; n < 24; n++) {
            x.take(0, 4);
            x.latest(0, 4, n);
        }
        x.take(0, 0);
        x.watch(0, 2, 24, true);
    }
}
