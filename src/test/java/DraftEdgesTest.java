/** Edges of promises 6 and 7: item, draft. */
public final class DraftEdgesTest {
    private static final int[] NO_SIZES = {-1, 21, Integer.MIN_VALUE, Integer.MAX_VALUE};

    public static void main(String[] args) {
        fourItems();
        kinds();
        valueIsNotLookedAt();
        refusedItemLeavesTheOthers();
        sizes();
        refusedSizeLeavesItems();
        withoutItemsAnyMore();
        fourItemsAgain();
        draftsOfTheOthers();
        Checked.end();
    }

    /** "false when it has 4" */
    private static void fourItems() {
        for (int kind = 0; kind <= 2; kind++) {
            Checked x = Checked.with(1, "fourItems");
            for (int k = 1; k <= 4; k++) {
                x.item(0, kind, 0, true);
                x.count(0, 7, k);
            }
            for (int other = -1; other <= 3; other++) {
                x.item(0, other, 0, false);
            }
            x.count(0, 7, 4);
        }
    }

    /** "or there is no such kind" */
    private static void kinds() {
        Checked x = Checked.with(1, "kinds");
        int[] none = {-1, 3, Integer.MIN_VALUE, Integer.MAX_VALUE};
        for (int kind : none) {
            x.item(0, kind, 0, false);
        }
        x.count(0, 7, 0);
        for (int kind = 0; kind <= 2; kind++) {
            x.item(0, kind, 0, true);
            x.item(0, 3, 0, false);
            x.count(0, 7, kind + 1);
        }
    }

    /** "(value is not looked at before it is sent)" */
    private static void valueIsNotLookedAt() {
        int[] values = {-1, 10, 16, Integer.MIN_VALUE, Integer.MAX_VALUE};
        for (int value : values) {
            Checked x = Checked.managed(2, "valueIsNotLookedAt");
            x.item(1, 0, value, true);
            x.item(1, 1, value, true);
            x.item(1, 2, value, true);
            x.count(1, 7, 3);
            x.send(1, 0, true, -3);
        }
        Checked x = Checked.managed(2, "valueIsNotLookedAt before");
        x.item(1, 1, 9, true);
        x.send(1, 0, true, -3);
        x.serve(1, 9, true);
        x.send(1, 0, true, 0);
        x.take(0, 2);
        x.handleIs(0, 1, 1, 0, 1, 9, 0);
        x.item(0, 2, 1, true);
        x.drop(0, 1, true, true);
        x.send(0, 0, true, -3);
    }

    private static void refusedItemLeavesTheOthers() {
        Checked x = Checked.managed(2, "refusedItemLeavesTheOthers");
        x.draft(1, 2, true);
        for (int k = 0; k < 4; k++) {
            x.item(1, 3, 99, false);
            x.item(1, 0, k, true);
        }
        x.item(1, 0, 99, false);
        x.send(1, 0, false, 0);
        x.take(0, 1);
        x.read(0, 0, 0, 2, 6);
        for (int k = 0; k < 4; k++) {
            x.reads(0, 0, k, 0, k);
        }
    }

    /** "Sets the draft's size .. false when size is not 0 .. 20" */
    private static void sizes() {
        Checked x = Checked.managed(2, "sizes");
        int[] sizes = {0, 1, 19, 20};
        int[] cells = {1, 1, 19, 20};
        for (int n = 0; n < sizes.length; n++) {
            x.draft(1, sizes[n], true);
            for (int size : NO_SIZES) {
                x.draft(1, size, false);
            }
            x.send(1, 0, true, 0);
            x.take(0, 2);
            x.read(0, 0, 0, 2, cells[n]);
            x.free(0, 0, true);
        }
    }

    /** "(nothing is changed)" */
    private static void refusedSizeLeavesItems() {
        Checked x = Checked.managed(2, "refusedSizeLeavesItems");
        x.draft(1, 5, true);
        x.item(1, 0, 61, true);
        x.item(1, 0, 62, true);
        for (int size : NO_SIZES) {
            x.draft(1, size, false);
        }
        x.count(1, 7, 2);
        x.send(1, 0, true, 0);
        x.take(0, 2);
        x.read(0, 0, 0, 2, 7);
        x.reads(0, 0, 0, 0, 61);
        x.reads(0, 0, 1, 0, 62);
    }

    /** "without items any more" */
    private static void withoutItemsAnyMore() {
        Checked x = Checked.managed(2, "withoutItemsAnyMore");
        for (int k = 0; k < 4; k++) {
            x.item(1, 1, 9, true);
        }
        x.draft(1, 3, true);
        x.count(1, 7, 0);
        x.send(1, 0, true, 0);
        x.take(0, 2);
        x.read(0, 0, 0, 2, 3);
        x.readFails(0, 0, 0, 0);
    }

    private static void fourItemsAgain() {
        Checked x = Checked.managed(2, "fourItemsAgain");
        for (int n = 0; n < 3; n++) {
            for (int k = 0; k < 4; k++) {
                x.item(1, 0, k, true);
            }
            x.item(1, 0, 4, false);
            if (n == 0) {
                x.draft(1, 0, true);
            } else {
                x.send(1, 0, true, 0);
            }
            x.count(1, 7, 0);
        }
        x.count(0, 5, 8);
    }

    /** "A DRAFT, one for each process" */
    private static void draftsOfTheOthers() {
        Checked x = Checked.with(4, "draftsOfTheOthers");
        for (int p = 0; p <= 3; p++) {
            for (int k = 0; k <= p; k++) {
                x.item(p, 0, k, true);
            }
        }
        x.item(3, 0, 4, false);
        x.draft(2, 0, true);
        x.die(1);
        x.count(0, 7, 1);
        x.count(2, 7, 0);
        x.count(3, 7, 4);
        x.born(1);
        x.count(1, 7, 0);
    }
}
