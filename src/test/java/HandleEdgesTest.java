/** Edges of promises 14, 15 and 18: hold, drop, handle. */
public final class HandleEdgesTest {
    private static final int[] NO_HANDLES = {0, -1, 3, 15, 16, Integer.MIN_VALUE, Integer.MAX_VALUE};

    public static void main(String[] args) {
        holdWithoutSuchHandle();
        holdStrong();
        holdStrongWhenItIsZero();
        holdWeak();
        holdOfDeadNode();
        dropWithoutSuchHandle();
        dropStrong();
        dropWeak();
        dropAtZero();
        dropOfTheLast();
        dropWhatBuffersHold();
        dropOfDeadNode();
        handleWithoutSuchHandle();
        handleOfAnotherWhat();
        handleOfDeadNode();
        handleOfTheEnds();
        handlesOfTheOthers();
        Checked.end();
    }

    /** Process 0 has handles 1 and 2, for nodes 0 and 1 of process 1, with STRONG 1. */
    private static Checked withTwo(String name) {
        Checked x = Checked.managed(3, name);
        x.lendNodes(2);
        return x;
    }

    /** "false when there is no such handle (0 is none)" */
    private static void holdWithoutSuchHandle() {
        Checked x = withTwo("holdWithoutSuchHandle");
        for (int handle : NO_HANDLES) {
            x.hold(0, handle, true, false);
            x.hold(0, handle, false, false);
        }
        x.hold(1, 1, true, false);
        x.hold(1, 1, false, false);
        x.count(0, 0, 2);
    }

    /** "STRONG (only if it is above 0)" */
    private static void holdStrong() {
        Checked x = withTwo("holdStrong");
        x.hold(0, 1, true, true);
        x.handleIs(0, 1, 2, 0, 1, 0, 0);
        x.handleIs(0, 2, 1, 0, 1, 1, 0);
    }

    /** "or a strong one is asked for and STRONG is 0" */
    private static void holdStrongWhenItIsZero() {
        Checked x = withTwo("holdStrongWhenItIsZero");
        x.hold(0, 1, false, true);
        x.hold(0, 1, true, true);
        x.drop(0, 1, true, true);
        x.drop(0, 1, true, true);
        x.hold(0, 1, true, false);
        x.handleIs(0, 1, 0, 1, 1, 0, 0);
        x.hold(0, 1, false, true);
        x.hold(0, 1, true, false);
        x.handleIs(0, 1, 0, 2, 1, 0, 0);
    }

    /** "or WEAK" */
    private static void holdWeak() {
        Checked x = withTwo("holdWeak");
        x.hold(0, 2, false, true);
        x.handleIs(0, 2, 1, 1, 1, 1, 0);
        x.drop(0, 2, true, true);
        x.hold(0, 2, false, true);
        x.handleIs(0, 2, 0, 2, 1, 1, 0);
        x.handleIs(0, 1, 1, 0, 1, 0, 0);
    }

    private static void holdOfDeadNode() {
        Checked x = withTwo("holdOfDeadNode");
        x.die(1);
        x.hold(0, 1, true, true);
        x.hold(0, 1, false, true);
        x.handleIs(0, 1, 2, 1, 1, 0, 1);
    }

    /** "false when there is no such handle" */
    private static void dropWithoutSuchHandle() {
        Checked x = withTwo("dropWithoutSuchHandle");
        for (int handle : NO_HANDLES) {
            x.drop(0, handle, true, false);
            x.drop(0, handle, false, false);
        }
        x.drop(1, 1, true, false);
        x.count(0, 0, 2);
    }

    /** "Takes from a count" */
    private static void dropStrong() {
        Checked x = withTwo("dropStrong");
        x.hold(0, 1, true, true);
        x.hold(0, 1, false, true);
        x.drop(0, 1, true, true);
        x.handleIs(0, 1, 1, 1, 1, 0, 0);
        x.drop(0, 1, true, true);
        x.handleIs(0, 1, 0, 1, 1, 0, 0);
    }

    private static void dropWeak() {
        Checked x = withTwo("dropWeak");
        x.hold(0, 1, false, true);
        x.hold(0, 1, false, true);
        x.drop(0, 1, false, true);
        x.handleIs(0, 1, 1, 1, 1, 0, 0);
        x.drop(0, 1, false, true);
        x.handleIs(0, 1, 1, 0, 1, 0, 0);
    }

    /** "or it is 0" */
    private static void dropAtZero() {
        Checked x = withTwo("dropAtZero");
        x.drop(0, 1, false, false);
        x.handleIs(0, 1, 1, 0, 1, 0, 0);
        x.hold(0, 1, false, true);
        x.drop(0, 1, true, true);
        x.drop(0, 1, true, false);
        x.handleIs(0, 1, 0, 1, 1, 0, 0);
    }

    /** "(a handle with both at 0 is no more then)" */
    private static void dropOfTheLast() {
        Checked x = withTwo("dropOfTheLast");
        x.drop(0, 1, true, true);
        x.noHandle(0, 1);
        x.drop(0, 1, true, false);
        x.drop(0, 1, false, false);
        x.hold(0, 1, false, false);
        x.count(0, 0, 1);
        x.hold(0, 2, false, true);
        x.drop(0, 2, true, true);
        x.drop(0, 2, false, true);
        x.noHandle(0, 2);
        x.count(0, 0, 0);
        x.lend(1, 1, 1);
        x.handleIs(0, 1, 1, 0, 1, 1, 0);
    }

    /** "(What buffers hold may be taken, too: they find nothing to lose then.)" */
    private static void dropWhatBuffersHold() {
        Checked x = Checked.managed(2, "dropWhatBuffersHold");
        x.serve(1, 4, true);
        x.item(1, 1, 4, true);
        x.item(1, 1, 4, true);
        x.send(1, 0, false, 0);
        x.drop(0, 1, true, true);
        x.take(0, 1);
        x.drop(0, 1, true, true);
        x.noHandle(0, 1);
        x.drop(0, 1, true, false);
        x.free(0, 0, true);
        x.count(0, 0, 0);

        Checked y = Checked.managed(2, "dropWhatBuffersHold, one of two");
        y.serve(1, 4, true);
        y.item(1, 1, 4, true);
        y.item(1, 1, 4, true);
        y.send(1, 0, false, 0);
        y.take(0, 1);
        y.drop(0, 1, true, true);
        y.handle(0, 1, 0, 1);
        y.free(0, 0, true);
        y.noHandle(0, 1);
        y.count(0, 0, 0);
    }

    private static void dropOfDeadNode() {
        Checked x = withTwo("dropOfDeadNode");
        x.hold(0, 1, false, true);
        x.reborn(1);
        x.drop(0, 1, true, true);
        x.handleIs(0, 1, 0, 1, 1, 0, 1);
        x.drop(0, 1, false, true);
        x.noHandle(0, 1);
        x.handleIs(0, 2, 1, 0, 1, 1, 1);
    }

    /** "-1 when there is none" */
    private static void handleWithoutSuchHandle() {
        Checked x = withTwo("handleWithoutSuchHandle");
        for (int handle : NO_HANDLES) {
            x.noHandle(0, handle);
            x.handle(0, handle, 5, -1);
            x.handle(0, handle, -1, -1);
        }
        x.noHandle(1, 1);
    }

    /** "or for another what" */
    private static void handleOfAnotherWhat() {
        Checked x = withTwo("handleOfAnotherWhat");
        int[] none = {-1, 5, Integer.MIN_VALUE, Integer.MAX_VALUE};
        for (int what : none) {
            x.handle(0, 1, what, -1);
            x.handle(0, 2, what, -1);
        }
    }

    /** "4 whether the node is dead (1 or 0)" */
    private static void handleOfDeadNode() {
        Checked x = Checked.managed(3, "handleOfDeadNode");
        x.lendNodes(11);
        x.handle(0, 1, 4, 0);
        x.die(1);
        x.handleIs(0, 1, 1, 0, 1, 0, 1);
        x.handleIs(0, 10, 1, 0, 1, 9, 1);
        x.handleIs(0, 11, 1, 0, 2, 0, 0);
        x.born(1);
        x.serve(1, 0, true);
        x.handle(0, 1, 4, 1);
    }

    /** "2 the node's process, 3 its key" */
    private static void handleOfTheEnds() {
        Checked x = Checked.with(4, "handleOfTheEnds");
        x.serve(1, 1, true);
        x.manage(1, 1, true);
        int[][] ends = {{0, 0}, {0, 9}, {3, 0}, {3, 9}};
        for (int n = 0; n < ends.length; n++) {
            x.serve(ends[n][0], ends[n][1], true);
            x.item(ends[n][0], 1, ends[n][1], true);
            x.send(ends[n][0], 0, true, 0);
            x.handleIs(1, n + 1, 1, 0, ends[n][0], ends[n][1], 0);
        }
    }

    private static void handlesOfTheOthers() {
        Checked x = withTwo("handlesOfTheOthers");
        x.item(0, 2, 2, true);
        x.send(0, 1, true, 0);
        x.count(1, 0, 0);
        x.serve(2, 4, true);
        x.lend(2, 4, 3);
        x.item(0, 2, 1, true);
        x.send(0, 3, true, 0);
        x.handleIs(2, 1, 1, 0, 1, 0, 0);
        x.hold(2, 1, true, true);
        x.hold(2, 1, false, true);
        x.handleIs(0, 1, 1, 0, 1, 0, 0);
        x.drop(0, 1, true, true);
        x.handleIs(2, 1, 2, 1, 1, 0, 0);
    }
}
