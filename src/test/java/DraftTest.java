/** Promises 6 and 7: item, draft; and how many cells a draft has. */
public final class DraftTest {
    public static void main(String[] args) {
        items();
        sizes();
        cells();
        itemsAreKeptInOrder();
        draftAfterSend();
        draftOfEachProcess();
        Checked.end();
    }

    private static void items() {
        Checked x = Checked.with(1, "items");
        x.item(0, -1, 0, false);
        x.item(0, 3, 0, false);
        x.item(0, Integer.MAX_VALUE, 0, false);
        x.count(0, 7, 0);
        x.item(0, 0, Integer.MIN_VALUE, true);
        x.item(0, 1, 77, true);
        x.item(0, 2, -5, true);
        x.count(0, 7, 3);
        x.item(0, 2, 0, true);
        x.item(0, 0, 0, false);
        x.item(0, 3, 0, false);
        x.count(0, 7, 4);
        x.draft(0, 0, true);
        x.count(0, 7, 0);
        x.item(0, 0, 0, true);
        x.count(0, 7, 1);
    }

    private static void sizes() {
        Checked x = Checked.managed(2, "sizes");
        x.draft(1, 7, true);
        x.item(1, 0, 5, true);
        x.draft(1, -1, false);
        x.draft(1, 21, false);
        x.draft(1, Integer.MIN_VALUE, false);
        x.count(1, 7, 1);
        x.send(1, 0, true, 0);
        x.count(0, 4, 8);
        x.sendCells(1, 0, 20, true, 0);
        x.count(0, 4, 28);
        x.draft(1, 9, true);
        x.sendCells(1, 0, 0, true, 0);
        x.count(0, 4, 29);
    }

    private static void cells() {
        Checked x = Checked.managed(2, "cells");
        int[] sizes = {0, 0, 0, 3, 20};
        int[] items = {0, 1, 4, 2, 4};
        int[] cells = {1, 1, 4, 5, 24};
        for (int n = 0; n < sizes.length; n++) {
            x.draft(1, sizes[n], true);
            for (int k = 0; k < items[n]; k++) {
                x.item(1, 0, k, true);
            }
            x.send(1, 0, true, 0);
            x.take(0, 2);
            x.read(0, 0, 0, 2, cells[n]);
            x.count(0, 4, cells[n]);
            x.free(0, 0, true);
        }
    }

    private static void itemsAreKeptInOrder() {
        Checked x = Checked.managed(2, "itemsAreKeptInOrder");
        x.item(1, 0, 12, true);
        x.item(1, 0, -1, true);
        x.item(1, 0, Integer.MAX_VALUE, true);
        x.item(1, 0, Integer.MIN_VALUE, true);
        x.send(1, 0, false, 0);
        x.take(0, 1);
        x.reads(0, 0, 0, 0, 12);
        x.reads(0, 0, 1, 0, -1);
        x.reads(0, 0, 2, 0, Integer.MAX_VALUE);
        x.reads(0, 0, 3, 0, Integer.MIN_VALUE);
    }

    private static void draftAfterSend() {
        Checked x = Checked.managed(2, "draftAfterSend");
        x.draft(1, 5, true);
        x.item(1, 1, 3, true);
        x.item(1, 0, 3, true);
        x.send(1, 1, true, -1);
        x.send(1, 0, true, -3);
        x.count(1, 7, 2);
        x.serve(1, 3, true);
        x.send(1, 0, true, 0);
        x.count(0, 4, 7);
        x.count(1, 7, 0);
        x.item(1, 0, 8, true);
        x.send(1, 0, true, 0);
        x.count(0, 4, 8);
    }

    private static void draftOfEachProcess() {
        Checked x = Checked.managed(3, "draftOfEachProcess");
        x.draft(1, 5, true);
        x.item(1, 0, 1, true);
        x.item(2, 0, 2, true);
        x.item(2, 0, 2, true);
        x.count(0, 7, 0);
        x.count(1, 7, 1);
        x.count(2, 7, 2);
        x.send(2, 0, true, 0);
        x.count(1, 7, 1);
        x.count(0, 4, 2);
        x.send(1, 0, true, 0);
        x.count(0, 4, 8);
    }
}
