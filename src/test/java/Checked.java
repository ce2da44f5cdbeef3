import java.util.ArrayList;
import java.util.List;
import java.util.NoSuchElementException;
import java.util.function.Consumer;
import java.util.function.Function;

/**
 * A new driver whose every call is compared with the answer that is due (the last argument). A call that is
 * refused, or that only asks, must change nothing besides: what the driver answers later is compared with
 * what one answers to which that call never came.
 */
final class Checked {
    static final Class<IllegalArgumentException> ARGUMENT = IllegalArgumentException.class;
    static final Class<IllegalStateException> STATE = IllegalStateException.class;
    static final Class<NoSuchElementException> NO_ELEMENT = NoSuchElementException.class;

    private static int wrong;

    private final ObjectDriver driver = new ObjectDriver();
    private final String name;
    /** The calls so far that may have changed something. */
    private final List<Function<ObjectDriver, Object>> made = new ArrayList<>();
    private int calls;
    /** What the driver would answer later, as long as nothing is changed; null when not known. */
    private String later;

    Checked(String name) {
        this.name = name;
    }

    /** A new driver in which the processes 0 .. living - 1 are alive. */
    static Checked with(int living, String name) {
        Checked x = new Checked(name);
        for (int p = 0; p < living; p++) {
            x.born(p);
        }
        return x;
    }

    /** As with(), and node 0 of process 0 is the manager. */
    static Checked managed(int living, String name) {
        Checked x = with(living, name);
        x.serve(0, 0, true);
        x.manage(0, 0, true);
        return x;
    }

    static void end() {
        System.out.println(wrong == 0 ? "all answers are as due" : wrong + " answers are not as due");
        if (wrong != 0) {
            System.exit(1);
        }
    }

    void due(String call, Object got, Object want) {
        if (!got.equals(want)) {
            wrong++;
            System.out.println(name + ": " + call + " answered " + got + ", due is " + want);
        }
    }

    /** A call that does what it is asked for. */
    private void does(String call, Function<ObjectDriver, Object> run, Object want) {
        due(call, answer(run), want);
        made.add(run);
        later = null;
    }

    /** A call after which all is as it was. */
    private void leaves(String call, Function<ObjectDriver, Object> run, Object want) {
        due(call, answer(run), want);
        int room = Probe.CALLS - made.size() - 1;
        if (later == null) {
            later = Probe.after(made, room);
        }
        made.add(run);
        sameLater(call, Probe.after(made, room));
        made.remove(made.size() - 1);
    }

    private void sameLater(String call, String got) {
        if (got.equals(later)) {
            return;
        }
        String[] is = got.split("\n");
        String[] was = later.split("\n");
        int n = 0;
        while (n < is.length && n < was.length && is[n].equals(was[n])) {
            n++;
        }
        due("what comes later, behind " + call + ",", n < is.length ? is[n] : "nothing more",
                n < was.length ? was[n] : "nothing more");
    }

    private void call(String call, Function<ObjectDriver, Object> run, Object want, boolean changes) {
        if (changes) {
            does(call, run, want);
        } else {
            leaves(call, run, want);
        }
    }

    private Object answer(Function<ObjectDriver, Object> run) {
        calls++;
        due("so many calls of one object that its answers are still promised", calls <= Probe.CALLS, true);
        return Probe.answer(driver, run);
    }

    private static Function<ObjectDriver, Object> asFunction(Consumer<ObjectDriver> run) {
        return d -> {
            run.accept(d);
            return "nothing";
        };
    }

    /** A call that throws, and changes nothing. */
    void raises(String call, Class<? extends RuntimeException> want, Consumer<ObjectDriver> run) {
        leaves(call, asFunction(run), want);
    }

    /** All calls of one that must be alive; where other arguments are wrong too, p is looked at first. */
    void everyCallRaises(int p, Class<? extends RuntimeException> want) {
        raises("die on " + p, want, d -> d.die(p));
        raises("serve on " + p, want, d -> d.serve(p, 11));
        raises("manage on " + p, want, d -> d.manage(p, 11));
        raises("item on " + p, want, d -> d.item(p, 9, 0));
        raises("draft on " + p, want, d -> d.draft(p, 99));
        raises("send on " + p, want, d -> d.send(p, 99, true));
        raises("send on " + p, want, d -> d.send(p, 0, false));
        raises("take on " + p, want, d -> d.take(p));
        raises("latest on " + p, want, d -> d.latest(p, 99));
        raises("reply on " + p, want, d -> d.reply(p));
        raises("free on " + p, want, d -> d.free(p, 99));
        raises("read on " + p, want, d -> d.read(p, 99, 0, 0));
        raises("hold on " + p, want, d -> d.hold(p, 99, true));
        raises("drop on " + p, want, d -> d.drop(p, 99, true));
        raises("watch on " + p, want, d -> d.watch(p, 99, 0));
        raises("count on " + p, want, d -> d.count(p, 99));
        raises("handle on " + p, want, d -> d.handle(p, 99, 99));
    }

    void born(int p) {
        does("born(" + p + ")", asFunction(d -> d.born(p)), "nothing");
    }

    void die(int p) {
        does("die(" + p + ")", asFunction(d -> d.die(p)), "nothing");
    }

    void reborn(int p) {
        die(p);
        born(p);
    }

    void serve(int p, int key, boolean want) {
        call("serve(" + p + ", " + key + ")", d -> d.serve(p, key), want, want);
    }

    void manage(int p, int key, boolean want) {
        call("manage(" + p + ", " + key + ")", d -> d.manage(p, key), want, want);
    }

    void item(int p, int kind, int value, boolean want) {
        call("item(" + p + ", " + kind + ", " + value + ")", d -> d.item(p, kind, value), want, want);
    }

    void draft(int p, int size, boolean want) {
        call("draft(" + p + ", " + size + ")", d -> d.draft(p, size), want, want);
    }

    void send(int p, int handle, boolean oneWay, int want) {
        call("send(" + p + ", " + handle + ", " + oneWay + ")", d -> d.send(p, handle, oneWay), want, want == 0);
    }

    /** Sends a draft of so many cells without items. */
    void sendCells(int p, int handle, int cells, boolean oneWay, int want) {
        draft(p, cells, true);
        send(p, handle, oneWay, want);
    }

    void take(int p, int want) {
        call("take(" + p + ")", d -> d.take(p), want, want != 0);
    }

    /** Takes a work and looks at all that latest() tells of it. */
    void takes(int p, int kind, int key, int at, int sender, int cookie) {
        take(p, kind);
        latestIs(p, kind, key, at, sender, cookie);
    }

    void latestIs(int p, int kind, int key, int at, int sender, int cookie) {
        latest(p, 0, kind);
        latest(p, 1, key);
        latest(p, 2, at);
        latest(p, 3, sender);
        latest(p, 4, cookie);
    }

    void latest(int p, int what, int want) {
        call("latest(" + p + ", " + what + ")", d -> d.latest(p, what), want, false);
    }

    /** Where the buffer of the work begins that p took latest. */
    int latestAt(int p) {
        calls++;
        return driver.latest(p, 2);
    }

    void reply(int p, int want) {
        call("reply(" + p + ")", d -> d.reply(p), want, want == 0 || want == -2);
    }

    void free(int p, int at, boolean want) {
        call("free(" + p + ", " + at + ")", d -> d.free(p, at), want, want);
    }

    void read(int p, int at, int k, int what, int want) {
        call("read(" + p + ", " + at + ", " + k + ", " + what + ")", d -> d.read(p, at, k, what), want, false);
    }

    /** Item k of a buffer is of that kind and has that value. */
    void reads(int p, int at, int k, int kind, int value) {
        read(p, at, k, 0, kind);
        read(p, at, k, 1, value);
    }

    void readFails(int p, int at, int k, int what) {
        raises("read(" + p + ", " + at + ", " + k + ", " + what + ")", NO_ELEMENT,
                d -> d.read(p, at, k, what));
    }

    void hold(int p, int handle, boolean strong, boolean want) {
        call("hold(" + p + ", " + handle + ", " + strong + ")", d -> d.hold(p, handle, strong), want, want);
    }

    void drop(int p, int handle, boolean strong, boolean want) {
        call("drop(" + p + ", " + handle + ", " + strong + ")", d -> d.drop(p, handle, strong), want, want);
    }

    void watch(int p, int handle, int cookie, boolean want) {
        call("watch(" + p + ", " + handle + ", " + cookie + ")", d -> d.watch(p, handle, cookie), want, want);
    }

    void count(int p, int what, int want) {
        call("count(" + p + ", " + what + ")", d -> d.count(p, what), want, false);
    }

    void handle(int p, int handle, int what, int want) {
        call("handle(" + p + ", " + handle + ", " + what + ")", d -> d.handle(p, handle, what), want, false);
    }

    void handleIs(int p, int handle, int strong, int weak, int process, int key, int dead) {
        handle(p, handle, 0, strong);
        handle(p, handle, 1, weak);
        handle(p, handle, 2, process);
        handle(p, handle, 3, key);
        handle(p, handle, 4, dead);
    }

    void noHandle(int p, int handle) {
        handleIs(p, handle, -1, -1, -1, -1, -1);
    }

    /** Process p has nothing at all. */
    void hasNothing(int p) {
        for (int what = 0; what <= 7; what++) {
            count(p, what, 0);
        }
        for (int handle = 0; handle <= 15; handle++) {
            noHandle(p, handle);
        }
        latestIs(p, 0, -1, -1, -1, 0);
        take(p, 0);
    }

    /**
     * Gives process 0 a handle for node key of process p, by a one-way message to the manager, node 0 of
     * process 0, whose buffer is freed again; the handle has STRONG 1 then.
     */
    void lend(int p, int key, int handle) {
        lend(p, 1, key, handle);
    }

    /** As above, with an item of any kind. */
    void lend(int p, int kind, int value, int handle) {
        draft(p, 0, true);
        item(p, kind, value, true);
        send(p, 0, true, 0);
        take(0, 2);
        int at = latestAt(0);
        reads(0, at, 0, 2, handle);
        hold(0, handle, true, true);
        free(0, at, true);
    }

    /** As lend(), of the manager's process 0: it gets handles 1 .. n, of STRONG 1, at once. */
    void lendNodes(int n) {
        for (int handle = 1; handle <= n; handle++) {
            int p = lender(handle);
            serve(p, lentKey(handle), true);
            item(p, 1, lentKey(handle), true);
            if (handle == n || handle % 4 == 0 || lender(handle + 1) != p) {
                send(p, 0, true, 0);
                take(0, 2);
                holdAndFree(latestAt(0));
            }
        }
        count(0, 0, n);
    }

    /** The process, 1 or 2, and the key of the node for which lendNodes() gives that handle. */
    static int lender(int handle) {
        return handle <= 10 ? 1 : 2;
    }

    static int lentKey(int handle) {
        return (handle - 1) % 10;
    }

    private void holdAndFree(int at) {
        int items = driver.read(0, at, 0, 2);
        calls++;
        for (int k = 0; k < items; k++) {
            hold(0, driver.read(0, at, k, 1), true, true);
            calls++;
        }
        free(0, at, true);
    }

    /** Puts calls of so many cells into the area of the manager's process 0, one behind the other, taken. */
    void lay(int... cells) {
        for (int c : cells) {
            sendCells(3, 0, c, false, 0);
            take(0, 1);
            reborn(3);
            reply(0, -2);
        }
    }

    /** Puts calls of one cell each into the inbox of the manager's process 0; process 3 is another one then. */
    void fillInbox(int works) {
        for (int n = 0; n < works; n++) {
            send(3, 0, false, 0);
            reborn(3);
        }
    }

    /** Opens so many calls in the manager's process 0; their buffers are freed, their callers have died. */
    void openCalls(int n) {
        for (int call = 0; call < n; call++) {
            send(3, 0, false, 0);
            take(0, 1);
            free(0, latestAt(0), true);
            reborn(3);
        }
        count(0, 2, n);
    }
}
