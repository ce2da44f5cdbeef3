/** Edges of 'Terms': how many there are of what has a number, and what there is at first and again. */
public final class TermsEdgesTest {
    private static final int[] NO_PROCESSES = {-1, 4, Integer.MIN_VALUE, Integer.MAX_VALUE};

    public static void main(String[] args) {
        processesAreZeroToThree();
        noneIsAliveAtFirst();
        keysAreZeroToNine();
        handlesAreOneToFifteen();
        handleZeroIsTheManagerForEveryProcess();
        handleZeroIsNoneWithoutManager();
        oneCountAboveZeroIsEnough();
        bothCountsAtZeroIsNoHandle();
        countsHaveNoEnd();
        areaHas64Cells();
        areaOfEachProcess();
        deadNodesAndNewOnes();
        bornAgainHasNoneOfItsNodes();
        draftOf4ItemsAnd20Cells();
        bufferHasAtLeastOneCell();
        Checked.end();
    }

    /** "PROCESSES 0 .. 3" */
    private static void processesAreZeroToThree() {
        Checked x = Checked.managed(4, "processesAreZeroToThree");
        x.draft(3, 2, true);
        x.item(3, 1, 9, true);
        x.serve(3, 9, true);
        x.send(3, 0, false, 0);
        x.take(0, 1);
        x.handleIs(0, 1, 1, 0, 3, 9, 0);
        x.latest(0, 3, 3);
        for (int p : NO_PROCESSES) {
            x.raises("born(" + p + ")", Checked.ARGUMENT, d -> d.born(p));
            x.everyCallRaises(p, Checked.ARGUMENT);
        }
    }

    /** "each ALIVE or not (at first none)" */
    private static void noneIsAliveAtFirst() {
        Checked x = new Checked("noneIsAliveAtFirst");
        for (int p = 0; p <= 3; p++) {
            x.everyCallRaises(p, Checked.STATE);
        }
        x.born(3);
        for (int p = 0; p <= 2; p++) {
            x.everyCallRaises(p, Checked.STATE);
        }
        x.hasNothing(3);
    }

    /** "by KEYS 0 .. 9" */
    private static void keysAreZeroToNine() {
        Checked x = Checked.with(2, "keysAreZeroToNine");
        x.serve(0, -1, false);
        x.serve(0, 10, false);
        x.serve(0, 0, true);
        x.serve(0, 9, true);
        x.serve(1, 0, true);
        x.serve(1, 9, true);
        x.manage(0, -1, false);
        x.manage(0, 10, false);
        x.manage(0, 9, true);
        x.item(1, 1, 0, true);
        x.item(1, 1, 9, true);
        x.send(1, 0, true, 0);
        x.takes(0, 2, 9, 0, 1, 0);
        x.handleIs(0, 1, 1, 0, 1, 0, 0);
        x.handleIs(0, 2, 1, 0, 1, 9, 0);
        int[] none = {-1, 10};
        for (int key : none) {
            x.draft(1, 0, true);
            x.item(1, 1, key, true);
            x.send(1, 0, true, -3);
        }
    }

    /** "HANDLES, by numbers 1 .. 15" */
    private static void handlesAreOneToFifteen() {
        Checked x = Checked.managed(3, "handlesAreOneToFifteen");
        x.lendNodes(15);
        int[] ends = {1, 15};
        for (int handle : ends) {
            x.handleIs(0, handle, 1, 0, Checked.lender(handle), Checked.lentKey(handle), 0);
            x.item(0, 2, handle, true);
            x.send(0, handle, true, 0);
            x.hold(0, handle, true, true);
            x.hold(0, handle, false, true);
            x.watch(0, handle, handle, true);
            x.drop(0, handle, false, true);
            x.drop(0, handle, true, true);
            x.handle(0, handle, 0, 1);
        }
        int[] none = {-1, 16};
        for (int handle : none) {
            isNoHandle(x, handle);
            x.send(0, handle, true, -1);
            x.draft(0, 0, true);
            x.item(0, 2, handle, true);
            x.send(0, 1, true, -3);
        }
        isNoHandle(x, 0);
    }

    private static void isNoHandle(Checked x, int handle) {
        x.noHandle(0, handle);
        x.hold(0, handle, true, false);
        x.hold(0, handle, false, false);
        x.drop(0, handle, true, false);
        x.drop(0, handle, false, false);
        x.watch(0, handle, 1, false);
    }

    /** "Handle 0 stands for the MANAGER, a node of some process, or none, for every process." */
    private static void handleZeroIsTheManagerForEveryProcess() {
        Checked x = Checked.with(4, "handleZeroIsTheManagerForEveryProcess");
        x.serve(2, 6, true);
        x.manage(2, 6, true);
        for (int p = 0; p <= 3; p++) {
            x.item(p, 2, 0, true);
            x.send(p, 0, false, 0);
            x.takes(2, 1, 6, p, p, 0);
            x.reads(2, p, 0, 1, 6);
            x.noHandle(p, 0);
            x.count(p, 0, 0);
        }
    }

    private static void handleZeroIsNoneWithoutManager() {
        Checked x = Checked.managed(4, "handleZeroIsNoneWithoutManager");
        x.serve(1, 5, true);
        x.lend(1, 5, 1);
        x.item(0, 2, 1, true);
        x.item(0, 1, 0, true);
        x.send(0, 1, true, 0);
        x.die(0);
        for (int p = 1; p <= 3; p++) {
            x.send(p, 0, true, -1);
            x.send(p, 0, false, -1);
        }
        x.born(0);
        x.send(1, 0, true, -1);
        x.serve(0, 0, true);
        x.send(1, 0, true, -1);
    }

    /** "two counts, STRONG and WEAK, of which one is above 0" */
    private static void oneCountAboveZeroIsEnough() {
        Checked x = Checked.managed(2, "oneCountAboveZeroIsEnough");
        x.lendNodes(2);
        x.hold(0, 1, false, true);
        x.drop(0, 1, true, true);
        x.handleIs(0, 1, 0, 1, 1, 0, 0);
        x.handleIs(0, 2, 1, 0, 1, 1, 0);
        x.count(0, 0, 2);
    }

    /** "(a handle with both at 0 is no more)" */
    private static void bothCountsAtZeroIsNoHandle() {
        Checked x = Checked.managed(2, "bothCountsAtZeroIsNoHandle");
        x.lendNodes(2);
        x.hold(0, 1, false, true);
        x.drop(0, 1, true, true);
        x.drop(0, 1, false, true);
        isNoHandle(x, 1);
        x.drop(0, 2, true, true);
        isNoHandle(x, 2);
        x.count(0, 0, 0);
    }

    /** No sentence bounds the counts, and an object's 512th call is still answered as promised. */
    private static void countsHaveNoEnd() {
        Checked x = Checked.managed(2, "countsHaveNoEnd");
        x.lendNodes(1);
        for (int n = 1; n <= 245; n++) {
            x.hold(0, 1, true, true);
            x.hold(0, 1, false, true);
        }
        x.handleIs(0, 1, 246, 245, 1, 0, 0);
        x.count(0, 0, 1);
        x.take(0, 0);
        x.latest(0, 0, 2);
    }

    /** "an AREA of 64 cells" */
    private static void areaHas64Cells() {
        Checked x = Checked.managed(4, "areaHas64Cells");
        x.lay(20, 20, 20, 3);
        x.count(0, 4, 63);
        x.sendCells(1, 0, 2, false, -4);
        x.sendCells(1, 0, 1, false, 0);
        x.takes(0, 1, 0, 63, 1, 0);
        x.count(0, 4, 64);
        x.sendCells(2, 0, 0, false, -4);
        x.sendCells(2, 0, 0, true, -4);
        x.read(0, 63, 0, 2, 1);
        x.readFails(0, 64, 0, 2);
        x.free(0, 64, false);
        x.free(0, 63, true);
        x.free(0, 0, true);
        x.count(0, 4, 43);
        x.send(2, 0, false, 0);
        x.takes(0, 1, 0, 63, 2, 0);
    }

    private static void areaOfEachProcess() {
        Checked x = Checked.managed(4, "areaOfEachProcess");
        x.lendNodes(1);
        x.lay(20, 20, 20, 4);
        x.sendCells(0, 1, 20, false, 0);
        x.takes(1, 1, 0, 0, 0, 0);
        x.count(1, 4, 20);
        x.count(0, 4, 64);
        x.free(1, 20, false);
        x.free(0, 0, true);
        x.read(1, 0, 0, 2, 20);
    }

    /** "A node is DEAD when its process died after it was made" */
    private static void deadNodesAndNewOnes() {
        Checked x = Checked.managed(2, "deadNodesAndNewOnes");
        x.reborn(1);
        x.serve(1, 5, true);
        x.lend(1, 5, 1);
        x.handle(0, 1, 4, 0);
        x.die(1);
        x.handleIs(0, 1, 1, 0, 1, 5, 1);
        x.born(1);
        x.serve(1, 5, true);
        x.handleIs(0, 1, 1, 0, 1, 5, 1);
        x.lend(1, 5, 2);
        x.handleIs(0, 1, 1, 0, 1, 5, 1);
        x.handleIs(0, 2, 1, 0, 1, 5, 0);
        x.die(1);
        x.handle(0, 1, 4, 1);
        x.handle(0, 2, 4, 1);
    }

    /** "a process that is born again has none of the nodes that it had" */
    private static void bornAgainHasNoneOfItsNodes() {
        Checked x = Checked.managed(2, "bornAgainHasNoneOfItsNodes");
        for (int key = 0; key <= 9; key++) {
            x.serve(1, key, true);
        }
        x.reborn(1);
        for (int key = 0; key <= 9; key++) {
            x.draft(1, 0, true);
            x.item(1, 1, key, true);
            x.send(1, 0, true, -3);
        }
        x.die(0);
        for (int key = 0; key <= 9; key++) {
            x.manage(1, key, false);
        }
        for (int key = 0; key <= 9; key++) {
            x.serve(1, key, true);
        }
    }

    /** "up to 4 ITEMS .. and a SIZE 0 .. 20, how many cells it has besides one for each item" */
    private static void draftOf4ItemsAnd20Cells() {
        Checked x = Checked.managed(2, "draftOf4ItemsAnd20Cells");
        x.draft(1, 21, false);
        x.draft(1, 20, true);
        for (int k = 0; k < 4; k++) {
            x.item(1, 0, k, true);
        }
        x.item(1, 0, 4, false);
        x.send(1, 0, false, 0);
        x.take(0, 1);
        x.read(0, 0, 0, 2, 24);
        x.count(0, 4, 24);
        for (int k = 0; k < 4; k++) {
            x.reads(0, 0, k, 0, k);
        }
        x.readFails(0, 0, 4, 0);
    }

    /** "so many cells as the draft has (at least one)" */
    private static void bufferHasAtLeastOneCell() {
        int[][] drafts = {{0, 0, 1}, {0, 1, 1}, {1, 0, 1}, {1, 1, 2}, {0, 2, 2}, {2, 0, 2}};
        for (int[] draft : drafts) {
            Checked x = Checked.managed(2, "bufferHasAtLeastOneCell");
            x.draft(1, draft[0], true);
            for (int k = 0; k < draft[1]; k++) {
                x.item(1, 0, k, true);
            }
            x.send(1, 0, true, 0);
            x.count(0, 4, draft[2]);
            x.count(0, 5, draft[2]);
            x.take(0, 2);
            x.read(0, 0, 0, 2, draft[2]);
            x.send(1, 0, true, 0);
            x.free(0, 0, true);
            x.takes(0, 2, 0, draft[2], 1, 0);
            x.free(0, draft[2], true);
            x.count(0, 4, 0);
            x.count(0, 5, 0);
        }
    }
}
