/** Promises 14, 15 and 18: hold, drop, handle. */
public final class HandleTest {
    private static final int[] NONE = {0, -1, 2, 15, 16, Integer.MIN_VALUE, Integer.MAX_VALUE};

    public static void main(String[] args) {
        noSuchHandle();
        strongCount();
        weakCount();
        gone();
        otherWhat();
        handlesOfEachProcess();
        Checked.end();
    }

    private static Checked withHandle(String name) {
        Checked x = Checked.managed(2, name);
        x.serve(1, 5, true);
        x.lend(1, 5, 1);
        return x;
    }

    private static void noSuchHandle() {
        Checked x = withHandle("noSuchHandle");
        for (int handle : NONE) {
            x.hold(0, handle, true, false);
            x.hold(0, handle, false, false);
            x.drop(0, handle, true, false);
            x.drop(0, handle, false, false);
            x.noHandle(0, handle);
        }
        x.handleIs(0, 1, 1, 0, 1, 5, 0);
        x.hold(1, 1, false, false);
        x.count(0, 0, 1);
    }

    private static void strongCount() {
        Checked x = withHandle("strongCount");
        x.hold(0, 1, true, true);
        x.hold(0, 1, true, true);
        x.handleIs(0, 1, 3, 0, 1, 5, 0);
        x.drop(0, 1, true, true);
        x.handleIs(0, 1, 2, 0, 1, 5, 0);
        x.drop(0, 1, false, false);
        x.hold(0, 1, false, true);
        x.drop(0, 1, true, true);
        x.drop(0, 1, true, true);
        x.drop(0, 1, true, false);
        x.hold(0, 1, true, false);
        x.handleIs(0, 1, 0, 1, 1, 5, 0);
    }

    private static void weakCount() {
        Checked x = withHandle("weakCount");
        x.hold(0, 1, false, true);
        x.hold(0, 1, false, true);
        x.handleIs(0, 1, 1, 2, 1, 5, 0);
        x.drop(0, 1, false, true);
        x.drop(0, 1, true, true);
        x.handleIs(0, 1, 0, 1, 1, 5, 0);
        x.hold(0, 1, false, true);
        x.handleIs(0, 1, 0, 2, 1, 5, 0);
        x.die(1);
        x.handleIs(0, 1, 0, 2, 1, 5, 1);
        x.hold(0, 1, false, true);
        x.drop(0, 1, false, true);
        x.born(1);
        x.handleIs(0, 1, 0, 2, 1, 5, 1);
    }

    private static void gone() {
        Checked x = withHandle("gone");
        x.drop(0, 1, true, true);
        x.noHandle(0, 1);
        x.count(0, 0, 0);
        x.drop(0, 1, true, false);
        x.hold(0, 1, false, false);
        x.lend(1, 5, 1);
        x.handleIs(0, 1, 1, 0, 1, 5, 0);
        x.hold(0, 1, false, true);
        x.drop(0, 1, true, true);
        x.drop(0, 1, false, true);
        x.noHandle(0, 1);
        x.count(0, 0, 0);
        x.serve(1, 6, true);
        x.serve(1, 7, true);
        x.lend(1, 5, 1);
        x.lend(1, 6, 2);
        x.drop(0, 1, true, true);
        x.handleIs(0, 2, 1, 0, 1, 6, 0);
        x.lend(1, 7, 1);
        x.handleIs(0, 1, 1, 0, 1, 7, 0);
        x.lend(1, 5, 3);
        x.count(0, 0, 3);
    }

    private static void otherWhat() {
        Checked x = withHandle("otherWhat");
        int[] wrong = {-1, 5, Integer.MIN_VALUE, Integer.MAX_VALUE};
        for (int what : wrong) {
            x.handle(0, 1, what, -1);
        }
    }

    private static void handlesOfEachProcess() {
        Checked x = withHandle("handlesOfEachProcess");
        x.item(0, 1, 0, true);
        x.send(0, 1, true, 0);
        x.handleIs(1, 1, 1, 0, 0, 0, 0);
        x.hold(1, 1, false, true);
        x.handleIs(0, 1, 1, 0, 1, 5, 0);
        x.drop(0, 1, true, true);
        x.handleIs(1, 1, 1, 1, 0, 0, 0);
    }
}
