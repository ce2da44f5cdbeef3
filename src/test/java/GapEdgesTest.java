/**
 * Edges of 'Terms': a buffer "is put into the GAP (cells between buffers, or the area's ends) with the fewest
 * cells that is large enough, of equal ones the first, at its beginning".
 */
public final class GapEdgesTest {
    public static void main(String[] args) {
        emptyArea();
        exactlyLargeEnough();
        oneCellTooSmall();
        fewestCells();
        firstOfEqualOnes();
        atItsBeginning();
        gapAtTheAreasBeginning();
        gapAtTheAreasEnd();
        endAndInnerGapEqual();
        freedNeighboursAreOneGap();
        enoughCellsButNoGap();
        buffersNotTakenAreNoGap();
        gapsOfOneWays();
        gapsForReplies();
        Checked.end();
    }

    /** A call of so many cells is put there (nowhere: -1); it lies on, the caller is another one then. */
    private static void goesTo(Checked x, int cells, int at) {
        x.draft(3, cells, true);
        if (at < 0) {
            x.send(3, 0, false, -4);
            return;
        }
        x.send(3, 0, false, 0);
        x.takes(0, 1, 0, at, 3, 0);
        x.read(0, at, 0, 2, cells);
        x.reborn(3);
        x.reply(0, -2);
    }

    private static void emptyArea() {
        Checked x = Checked.managed(4, "emptyArea");
        goesTo(x, 20, 0);
        goesTo(x, 1, 20);
        x.free(0, 0, true);
        x.free(0, 20, true);
        x.count(0, 4, 0);
        goesTo(x, 1, 0);
    }

    private static void exactlyLargeEnough() {
        Checked x = Checked.managed(4, "exactlyLargeEnough");
        x.lay(5, 7, 1, 20, 20, 11);
        x.count(0, 4, 64);
        x.free(0, 5, true);
        goesTo(x, 7, 5);
        x.count(0, 4, 64);
    }

    private static void oneCellTooSmall() {
        Checked x = Checked.managed(4, "oneCellTooSmall");
        x.lay(5, 7, 1, 20, 20, 11);
        x.free(0, 5, true);
        goesTo(x, 8, -1);
        x.free(0, 0, true);
        goesTo(x, 13, -1);
        goesTo(x, 12, 0);
    }

    private static void fewestCells() {
        Checked x = Checked.managed(4, "fewestCells");
        x.lay(6, 1, 3, 1, 5, 1, 4, 1);
        x.free(0, 0, true);
        x.free(0, 7, true);
        x.free(0, 11, true);
        x.free(0, 17, true);
        goesTo(x, 4, 17);
        goesTo(x, 4, 11);
        goesTo(x, 4, 0);
        goesTo(x, 4, 22);
        goesTo(x, 3, 7);
        goesTo(x, 1, 15);
        goesTo(x, 2, 4);
    }

    private static void firstOfEqualOnes() {
        Checked x = Checked.managed(4, "firstOfEqualOnes");
        x.lay(1, 4, 1, 4, 1, 4, 1);
        x.free(0, 11, true);
        x.free(0, 6, true);
        x.free(0, 1, true);
        goesTo(x, 3, 1);
        goesTo(x, 3, 6);
        goesTo(x, 3, 11);
        goesTo(x, 3, 16);
    }

    private static void atItsBeginning() {
        Checked x = Checked.managed(4, "atItsBeginning");
        x.lay(2, 6, 1);
        x.free(0, 2, true);
        goesTo(x, 2, 2);
        goesTo(x, 1, 4);
        goesTo(x, 3, 5);
        goesTo(x, 1, 9);
    }

    private static void gapAtTheAreasBeginning() {
        Checked x = Checked.managed(4, "gapAtTheAreasBeginning");
        x.lay(3, 1);
        x.free(0, 0, true);
        goesTo(x, 3, 0);
        x.free(0, 0, true);
        goesTo(x, 4, 4);
        goesTo(x, 1, 0);
        goesTo(x, 2, 1);
    }

    private static void gapAtTheAreasEnd() {
        Checked x = Checked.managed(4, "gapAtTheAreasEnd");
        x.lay(10, 1, 20, 20, 10);
        x.free(0, 0, true);
        goesTo(x, 4, 0);
        goesTo(x, 3, 61);
        x.count(0, 4, 58);
        x.free(0, 61, true);
        goesTo(x, 2, 61);
        goesTo(x, 1, 63);
        goesTo(x, 1, 4);
    }

    private static void endAndInnerGapEqual() {
        Checked x = Checked.managed(4, "endAndInnerGapEqual");
        x.lay(20, 4, 20, 16);
        x.free(0, 20, true);
        goesTo(x, 4, 20);
        goesTo(x, 4, 60);
        x.free(0, 20, true);
        x.free(0, 60, true);
        goesTo(x, 1, 20);
        goesTo(x, 1, 21);
        goesTo(x, 3, 60);
    }

    private static void freedNeighboursAreOneGap() {
        int[][] orders = {{20, 25, 30}, {30, 25, 20}, {20, 30, 25}};
        for (int[] order : orders) {
            Checked x = Checked.managed(4, "freedNeighboursAreOneGap");
            x.lay(20, 5, 5, 5, 20, 9);
            for (int at : order) {
                x.free(0, at, true);
            }
            goesTo(x, 16, -1);
            goesTo(x, 15, 20);
        }
    }

    private static void enoughCellsButNoGap() {
        Checked x = Checked.managed(4, "enoughCellsButNoGap");
        x.lay(10, 10, 10, 10, 10, 10, 4);
        x.free(0, 0, true);
        x.free(0, 20, true);
        x.free(0, 40, true);
        x.free(0, 60, true);
        x.count(0, 4, 30);
        goesTo(x, 11, -1);
        x.sendCells(1, 0, 11, true, -4);
        x.free(0, 50, true);
        goesTo(x, 20, 40);
    }

    private static void buffersNotTakenAreNoGap() {
        Checked x = Checked.managed(4, "buffersNotTakenAreNoGap");
        x.sendCells(1, 0, 5, true, 0);
        x.sendCells(1, 0, 6, true, 0);
        x.sendCells(1, 0, 7, false, 0);
        x.sendCells(2, 0, 8, false, 0);
        x.takes(0, 2, 0, 0, 1, 0);
        x.takes(0, 1, 0, 11, 1, 0);
        x.takes(0, 1, 0, 18, 2, 0);
        x.free(0, 0, true);
        x.takes(0, 2, 0, 5, 1, 0);
    }

    private static void gapsOfOneWays() {
        Checked x = Checked.managed(4, "gapsOfOneWays");
        x.lay(4, 1, 3, 1);
        x.free(0, 0, true);
        x.free(0, 5, true);
        x.sendCells(1, 0, 3, true, 0);
        x.sendCells(1, 0, 3, true, 0);
        x.takes(0, 2, 0, 5, 1, 0);
        x.free(0, 5, true);
        x.takes(0, 2, 0, 0, 1, 0);
    }

    private static void gapsForReplies() {
        Checked x = Checked.managed(4, "gapsForReplies");
        x.lay(4, 1, 3, 1);
        x.lendNodes(1);
        x.free(0, 0, true);
        x.free(0, 5, true);
        int[] at = {5, 0, 9};
        for (int begin : at) {
            x.send(0, 1, false, 0);
            x.take(1, 1);
            x.draft(1, 3, true);
            x.reply(1, 0);
            x.takes(0, 3, -1, begin, 1, 0);
        }
    }
}
