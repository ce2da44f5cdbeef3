/** Edges of promises 12 and 13: free, read. */
public final class BufferEdgesTest {
    private static final int[] NO_PLACES = {-1, 1, 63, 64, 65, Integer.MIN_VALUE, Integer.MAX_VALUE};

    public static void main(String[] args) {
        freeWhereNoneBegins();
        freeOfWorkInTheInbox();
        freeOfWaitingWork();
        freeOnceOnly();
        freeOfEachKind();
        freeOfAnotherProcess();
        freeOfWorkThatStays();
        freeAtTheAreasEnds();
        freeLosesStrong();
        freeOfNodeHeldTwice();
        freeLosesOnlyAboveZero();
        freeWithoutHandle();
        freeOfNumberThatIsAnother();
        freeOfOwnAndNumbers();
        freeOfSeveralBuffers();
        freeStartsTheNext();
        freeStartsTheNextInFullInbox();
        freeStartsOneOnly();
        freeOfCallStartsNone();
        freeOfOtherNodeStartsNone();
        readEveryItem();
        readWithoutSuchItem();
        readWithoutSuchWhat();
        readCellsForAnyItem();
        readWhereNoneBegins();
        readOfWorkNotTaken();
        readAfterFree();
        readOfHandleAsItCame();
        Checked.end();
    }

    private static void noBuffer(Checked x, int p, int at) {
        x.free(p, at, false);
        x.readFails(p, at, 0, 0);
        x.readFails(p, at, 0, 1);
        x.readFails(p, at, 0, 2);
    }

    /** "false when there is none such" */
    private static void freeWhereNoneBegins() {
        Checked x = Checked.managed(4, "freeWhereNoneBegins");
        x.free(0, 0, false);
        x.lay(3, 4);
        int[] inside = {1, 2, 4, 5, 6, 7, 8};
        for (int at : inside) {
            x.free(0, at, false);
        }
        for (int at : NO_PLACES) {
            x.free(0, at, false);
        }
        x.count(0, 4, 7);
        x.free(0, 3, true);
        x.free(0, 0, true);
        x.count(0, 4, 0);
    }

    /** "(nor one whose work is in the inbox" */
    private static void freeOfWorkInTheInbox() {
        Checked x = Checked.managed(4, "freeOfWorkInTheInbox");
        x.serve(3, 1, true);
        x.item(3, 1, 1, true);
        x.send(3, 0, false, 0);
        x.send(2, 0, true, 0);
        x.free(0, 0, false);
        x.free(0, 1, false);
        x.take(0, 1);
        x.free(0, 1, false);
        x.free(0, 0, true);
        x.take(0, 2);
        x.free(0, 1, true);
        x.reply(0, 0);
        x.free(3, 0, false);
        x.take(3, 3);
        x.free(3, 0, true);
    }

    /** "or waits)" */
    private static void freeOfWaitingWork() {
        Checked x = Checked.managed(2, "freeOfWaitingWork");
        x.sendCells(1, 0, 2, true, 0);
        x.sendCells(1, 0, 2, true, 0);
        x.sendCells(1, 0, 2, true, 0);
        x.take(0, 2);
        x.free(0, 2, false);
        x.free(0, 4, false);
        x.free(0, 0, true);
        x.free(0, 2, false);
        x.take(0, 2);
        x.free(0, 4, false);
        x.free(0, 2, true);
        x.free(0, 4, false);
    }

    private static void freeOnceOnly() {
        Checked x = Checked.managed(4, "freeOnceOnly");
        x.lendNodes(1);
        x.item(1, 1, 0, true);
        x.send(1, 0, false, 0);
        x.take(0, 1);
        x.handle(0, 1, 0, 2);
        x.free(0, 0, true);
        x.free(0, 0, false);
        x.handle(0, 1, 0, 1);
        x.count(0, 4, 0);
        x.lay(5);
        x.free(0, 0, true);
        x.free(0, 0, false);
    }

    private static void freeOfEachKind() {
        Checked x = Checked.managed(2, "freeOfEachKind");
        x.sendCells(1, 0, 3, false, 0);
        x.sendCells(1, 0, 4, true, 0);
        x.take(0, 1);
        x.take(0, 2);
        x.draft(0, 5, true);
        x.reply(0, 0);
        x.take(1, 3);
        x.count(0, 4, 7);
        x.count(0, 5, 4);
        x.free(0, 0, true);
        x.count(0, 4, 4);
        x.count(0, 5, 4);
        x.free(0, 3, true);
        x.count(0, 4, 0);
        x.count(0, 5, 0);
        x.count(1, 4, 5);
        x.free(1, 0, true);
        x.count(1, 4, 0);
    }

    private static void freeOfAnotherProcess() {
        Checked x = Checked.managed(2, "freeOfAnotherProcess");
        x.send(1, 0, false, 0);
        x.take(0, 1);
        x.free(1, 0, false);
        x.free(0, 0, true);
    }

    private static void freeOfWorkThatStays() {
        Checked x = Checked.managed(4, "freeOfWorkThatStays");
        x.openCalls(12);
        x.send(1, 0, false, 0);
        x.take(0, 0);
        x.free(0, 0, false);
        x.reply(0, -2);
        x.take(0, 1);
        x.free(0, 0, true);
    }

    private static void freeAtTheAreasEnds() {
        Checked x = Checked.managed(4, "freeAtTheAreasEnds");
        x.lay(20, 20, 20, 3, 1);
        x.free(0, 63, true);
        x.free(0, 0, true);
        x.count(0, 4, 43);
        x.lay(1);
        x.read(0, 63, 0, 2, 1);
        x.lay(20);
        x.read(0, 0, 0, 2, 20);
        x.count(0, 4, 64);
    }

    /** "The handles for the nodes that it holds lose 1 of STRONG each" */
    private static void freeLosesStrong() {
        Checked x = Checked.managed(2, "freeLosesStrong");
        x.lendNodes(3);
        x.item(1, 1, 0, true);
        x.item(1, 1, 2, true);
        x.send(1, 0, false, 0);
        x.take(0, 1);
        x.handle(0, 1, 0, 2);
        x.handle(0, 2, 0, 1);
        x.handle(0, 3, 0, 2);
        x.free(0, 0, true);
        for (int handle = 1; handle <= 3; handle++) {
            x.handleIs(0, handle, 1, 0, 1, handle - 1, 0);
        }
    }

    private static void freeOfNodeHeldTwice() {
        Checked x = Checked.managed(2, "freeOfNodeHeldTwice");
        x.serve(1, 6, true);
        for (int k = 0; k < 4; k++) {
            x.item(1, 1, 6, true);
        }
        x.send(1, 0, false, 0);
        x.take(0, 1);
        x.handleIs(0, 1, 4, 0, 1, 6, 0);
        x.drop(0, 1, true, true);
        x.hold(0, 1, false, true);
        x.free(0, 0, true);
        x.handleIs(0, 1, 0, 1, 1, 6, 0);
    }

    /** "if that is above 0" */
    private static void freeLosesOnlyAboveZero() {
        Checked x = Checked.managed(2, "freeLosesOnlyAboveZero");
        x.serve(1, 6, true);
        x.item(1, 1, 6, true);
        x.send(1, 0, false, 0);
        x.take(0, 1);
        x.hold(0, 1, false, true);
        x.hold(0, 1, false, true);
        x.drop(0, 1, true, true);
        x.free(0, 0, true);
        x.handleIs(0, 1, 0, 2, 1, 6, 0);
        x.count(0, 0, 1);
    }

    private static void freeWithoutHandle() {
        Checked x = Checked.managed(2, "freeWithoutHandle");
        x.serve(1, 6, true);
        x.item(1, 1, 6, true);
        x.send(1, 0, false, 0);
        x.take(0, 1);
        x.drop(0, 1, true, true);
        x.noHandle(0, 1);
        x.free(0, 0, true);
        x.noHandle(0, 1);
        x.count(0, 0, 0);
        x.lend(1, 6, 1);
        x.handleIs(0, 1, 1, 0, 1, 6, 0);
    }

    private static void freeOfNumberThatIsAnother() {
        Checked x = Checked.managed(2, "freeOfNumberThatIsAnother");
        x.serve(1, 6, true);
        x.serve(1, 7, true);
        x.item(1, 1, 6, true);
        x.send(1, 0, false, 0);
        x.take(0, 1);
        x.drop(0, 1, true, true);
        x.lend(1, 7, 1);
        x.lend(1, 6, 2);
        x.hold(0, 2, true, true);
        x.free(0, 0, true);
        x.handleIs(0, 1, 1, 0, 1, 7, 0);
        x.handleIs(0, 2, 1, 0, 1, 6, 0);
    }

    private static void freeOfOwnAndNumbers() {
        Checked x = Checked.managed(2, "freeOfOwnAndNumbers");
        x.lendNodes(1);
        x.serve(0, 1, true);
        x.item(1, 2, 0, true);
        x.item(1, 0, 1, true);
        x.send(1, 0, false, 0);
        x.take(0, 1);
        x.reads(0, 0, 0, 1, 0);
        x.reads(0, 0, 1, 0, 1);
        x.free(0, 0, true);
        x.handleIs(0, 1, 1, 0, 1, 0, 0);
    }

    private static void freeOfSeveralBuffers() {
        Checked x = Checked.managed(2, "freeOfSeveralBuffers");
        x.serve(1, 6, true);
        for (int n = 0; n < 3; n++) {
            x.item(1, 1, 6, true);
            x.send(1, 0, true, 0);
        }
        x.handle(0, 1, 0, 3);
        for (int n = 0; n < 3; n++) {
            x.handle(0, 1, 0, 3 - n);
            x.take(0, 2);
            x.free(0, n, true);
        }
        x.noHandle(0, 1);
    }

    /** "the next one that waits at its node comes into the inbox" */
    private static void freeStartsTheNext() {
        Checked x = Checked.managed(3, "freeStartsTheNext");
        x.sendCells(1, 0, 2, true, 0);
        x.sendCells(2, 0, 3, true, 0);
        x.send(2, 0, false, 0);
        x.take(0, 2);
        x.free(0, 0, true);
        x.count(0, 1, 2);
        x.take(0, 1);
        x.takes(0, 2, 0, 2, 2, 0);
        x.free(0, 2, true);
        x.count(0, 1, 0);
    }

    /** "(also when that has 12)" */
    private static void freeStartsTheNextInFullInbox() {
        Checked x = Checked.managed(4, "freeStartsTheNextInFullInbox");
        x.sendCells(1, 0, 2, true, 0);
        x.sendCells(1, 0, 3, true, 0);
        x.take(0, 2);
        x.fillInbox(12);
        x.free(0, 0, true);
        x.count(0, 1, 13);
        x.send(2, 0, false, -4);
        for (int n = 0; n < 12; n++) {
            x.take(0, 1);
        }
        x.takes(0, 2, 0, 2, 1, 0);
    }

    private static void freeStartsOneOnly() {
        Checked x = Checked.managed(2, "freeStartsOneOnly");
        for (int n = 0; n < 4; n++) {
            x.send(1, 0, true, 0);
        }
        x.take(0, 2);
        x.free(0, 0, true);
        x.count(0, 1, 1);
        x.take(0, 2);
        x.free(0, 2, false);
        x.free(0, 0, false);
        x.count(0, 1, 0);
        x.free(0, 1, true);
        x.count(0, 1, 1);
    }

    /** "If it was that of a one-way message" */
    private static void freeOfCallStartsNone() {
        Checked x = Checked.managed(3, "freeOfCallStartsNone");
        x.send(1, 0, true, 0);
        x.send(1, 0, true, 0);
        x.send(1, 0, false, 0);
        x.send(0, 0, false, 0);
        x.take(0, 2);
        x.take(0, 1);
        x.take(0, 1);
        x.free(0, 2, true);
        x.count(0, 1, 0);
        x.reply(0, 0);
        x.take(0, 3);
        x.free(0, 2, true);
        x.count(0, 1, 0);
        x.free(0, 0, true);
        x.count(0, 1, 1);
    }

    private static void freeOfOtherNodeStartsNone() {
        Checked x = Checked.managed(2, "freeOfOtherNodeStartsNone");
        x.lendNodes(2);
        x.send(0, 1, true, 0);
        x.send(0, 1, true, 0);
        x.send(0, 2, true, 0);
        x.take(1, 2);
        x.take(1, 2);
        x.free(1, 2, true);
        x.count(1, 1, 0);
        x.free(1, 0, true);
        x.takes(1, 2, 0, 1, 0, 0);
    }

    private static Checked withFourItems(String name) {
        Checked x = Checked.managed(2, name);
        x.serve(1, 9, true);
        x.draft(1, 2, true);
        x.item(1, 0, Integer.MIN_VALUE, true);
        x.item(1, 1, 9, true);
        x.item(1, 2, 0, true);
        x.item(1, 0, Integer.MAX_VALUE, true);
        x.send(1, 0, false, 0);
        x.take(0, 1);
        return x;
    }

    /** "what 0 its kind, 1 its value" */
    private static void readEveryItem() {
        Checked x = withFourItems("readEveryItem");
        x.reads(0, 0, 0, 0, Integer.MIN_VALUE);
        x.reads(0, 0, 1, 2, 1);
        x.reads(0, 0, 2, 1, 0);
        x.reads(0, 0, 3, 0, Integer.MAX_VALUE);
    }

    /** "Throws NoSuchElementException when there is none." */
    private static void readWithoutSuchItem() {
        Checked x = withFourItems("readWithoutSuchItem");
        int[] none = {-1, 4, 5, Integer.MIN_VALUE, Integer.MAX_VALUE};
        for (int k : none) {
            x.readFails(0, 0, k, 0);
            x.readFails(0, 0, k, 1);
        }
        for (int items = 0; items < 4; items++) {
            Checked y = Checked.managed(2, "readWithoutSuchItem, of " + items);
            y.draft(1, 5, true);
            for (int k = 0; k < items; k++) {
                y.item(1, 0, 70 + k, true);
            }
            y.send(1, 0, false, 0);
            y.take(0, 1);
            for (int k = 0; k < items; k++) {
                y.reads(0, 0, k, 0, 70 + k);
            }
            y.readFails(0, 0, items, 0);
            y.readFails(0, 0, items, 1);
        }
    }

    private static void readWithoutSuchWhat() {
        Checked x = withFourItems("readWithoutSuchWhat");
        int[] none = {-1, 3, 4, Integer.MIN_VALUE, Integer.MAX_VALUE};
        for (int what : none) {
            x.readFails(0, 0, 0, what);
            x.readFails(0, 0, 3, what);
            x.readFails(0, 0, 4, what);
            x.readFails(0, 5, 0, what);
        }
        x.raises("read(3, 0, 0, 0)", Checked.STATE, d -> d.read(3, 0, 0, 0));
        x.raises("read(4, 0, 0, 0)", Checked.ARGUMENT, d -> d.read(4, 0, 0, 0));
    }

    /** "for any k, what 2: how many cells it has" */
    private static void readCellsForAnyItem() {
        Checked x = withFourItems("readCellsForAnyItem");
        int[] any = {0, 3, 4, -1, Integer.MIN_VALUE, Integer.MAX_VALUE};
        for (int k : any) {
            x.read(0, 0, k, 2, 6);
        }
    }

    private static void readWhereNoneBegins() {
        Checked x = withFourItems("readWhereNoneBegins");
        int[] inside = {2, 5, 6};
        for (int at : inside) {
            noBuffer(x, 0, at);
        }
        for (int at : NO_PLACES) {
            noBuffer(x, 0, at);
        }
        noBuffer(x, 1, 0);
        Checked y = Checked.with(1, "readWhereNoneBegins, empty area");
        noBuffer(y, 0, 0);
    }

    /** "of a buffer whose work was taken" */
    private static void readOfWorkNotTaken() {
        Checked x = Checked.managed(2, "readOfWorkNotTaken");
        x.item(1, 0, 1, true);
        x.send(1, 0, true, 0);
        x.item(1, 0, 2, true);
        x.send(1, 0, true, 0);
        noBuffer(x, 0, 0);
        noBuffer(x, 0, 1);
        x.take(0, 2);
        x.reads(0, 0, 0, 0, 1);
        noBuffer(x, 0, 1);
        x.free(0, 0, true);
        noBuffer(x, 0, 1);
        x.take(0, 2);
        x.reads(0, 1, 0, 0, 2);
    }

    private static void readAfterFree() {
        Checked x = withFourItems("readAfterFree");
        x.free(0, 0, true);
        noBuffer(x, 0, 0);
        x.item(1, 0, 5, true);
        x.send(1, 0, true, 0);
        noBuffer(x, 0, 0);
        x.take(0, 2);
        x.read(0, 0, 0, 2, 1);
        x.reads(0, 0, 0, 0, 5);
        x.readFails(0, 0, 1, 0);
    }

    /** "(a HANDLE: as it came)" */
    private static void readOfHandleAsItCame() {
        Checked x = withFourItems("readOfHandleAsItCame");
        x.drop(0, 1, true, true);
        x.reads(0, 0, 1, 2, 1);
        x.serve(1, 8, true);
        x.lend(1, 8, 1);
        x.lend(1, 9, 2);
        x.reads(0, 0, 1, 2, 1);
        x.die(1);
        x.reads(0, 0, 1, 2, 1);
    }
}
