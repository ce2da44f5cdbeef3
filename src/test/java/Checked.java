/** A new driver whose every call is compared with the answer that is due (the last argument). */
final class Checked {
    static final Class<IllegalArgumentException> ARGUMENT = IllegalArgumentException.class;
    static final Class<IllegalStateException> STATE = IllegalStateException.class;
    static final Class<java.util.NoSuchElementException> NO_ELEMENT = java.util.NoSuchElementException.class;

    private static int wrong;

    final ObjectDriver driver = new ObjectDriver();
    private final String name;

    Checked(String name) {
        this.name = name;
    }

    /** A new driver in which the processes 0 .. living - 1 are alive. */
    static Checked with(int living, String name) {
        Checked x = new Checked(name);
        for (int p = 0; p < living; p++) {
            x.born(p);
        }
        return x;
    }

    /** As with(), and node 0 of process 0 is the manager. */
    static Checked managed(int living, String name) {
        Checked x = with(living, name);
        x.serve(0, 0, true);
        x.manage(0, 0, true);
        return x;
    }

    static void end() {
        System.out.println(wrong == 0 ? "all answers are as due" : wrong + " answers are not as due");
        if (wrong != 0) {
            System.exit(1);
        }
    }

    void due(String call, Object got, Object want) {
        if (!got.equals(want)) {
            wrong++;
            System.out.println(name + ": " + call + " answered " + got + ", due is " + want);
        }
    }

    void raises(String call, Class<? extends RuntimeException> want, Runnable run) {
        Object got = "nothing";
        try {
            run.run();
        } catch (RuntimeException e) {
            got = e.getClass();
        }
        due(call + " throws", got, want);
    }

    void born(int p) {
        driver.born(p);
    }

    void die(int p) {
        driver.die(p);
    }

    void reborn(int p) {
        driver.die(p);
        driver.born(p);
    }

    void serve(int p, int key, boolean want) {
        due("serve(" + p + ", " + key + ")", driver.serve(p, key), want);
    }

    void manage(int p, int key, boolean want) {
        due("manage(" + p + ", " + key + ")", driver.manage(p, key), want);
    }

    void item(int p, int kind, int value, boolean want) {
        due("item(" + p + ", " + kind + ", " + value + ")", driver.item(p, kind, value), want);
    }

    void draft(int p, int size, boolean want) {
        due("draft(" + p + ", " + size + ")", driver.draft(p, size), want);
    }

    void send(int p, int handle, boolean oneWay, int want) {
        due("send(" + p + ", " + handle + ", " + oneWay + ")", driver.send(p, handle, oneWay), want);
    }

    /** Sends a draft of so many cells without items. */
    void sendCells(int p, int handle, int cells, boolean oneWay, int want) {
        draft(p, cells, true);
        send(p, handle, oneWay, want);
    }

    void take(int p, int want) {
        due("take(" + p + ")", driver.take(p), want);
    }

    /** Takes a work and looks at all that latest() tells of it. */
    void takes(int p, int kind, int key, int at, int sender, int cookie) {
        take(p, kind);
        latestIs(p, kind, key, at, sender, cookie);
    }

    void latestIs(int p, int kind, int key, int at, int sender, int cookie) {
        latest(p, 0, kind);
        latest(p, 1, key);
        latest(p, 2, at);
        latest(p, 3, sender);
        latest(p, 4, cookie);
    }

    void latest(int p, int what, int want) {
        due("latest(" + p + ", " + what + ")", driver.latest(p, what), want);
    }

    void reply(int p, int want) {
        due("reply(" + p + ")", driver.reply(p), want);
    }

    void free(int p, int at, boolean want) {
        due("free(" + p + ", " + at + ")", driver.free(p, at), want);
    }

    void read(int p, int at, int k, int what, int want) {
        due("read(" + p + ", " + at + ", " + k + ", " + what + ")", driver.read(p, at, k, what), want);
    }

    /** Item k of a buffer is of that kind and has that value. */
    void reads(int p, int at, int k, int kind, int value) {
        read(p, at, k, 0, kind);
        read(p, at, k, 1, value);
    }

    void readFails(int p, int at, int k, int what) {
        raises("read(" + p + ", " + at + ", " + k + ", " + what + ")", NO_ELEMENT,
                () -> driver.read(p, at, k, what));
    }

    void hold(int p, int handle, boolean strong, boolean want) {
        due("hold(" + p + ", " + handle + ", " + strong + ")", driver.hold(p, handle, strong), want);
    }

    void drop(int p, int handle, boolean strong, boolean want) {
        due("drop(" + p + ", " + handle + ", " + strong + ")", driver.drop(p, handle, strong), want);
    }

    void watch(int p, int handle, int cookie, boolean want) {
        due("watch(" + p + ", " + handle + ", " + cookie + ")", driver.watch(p, handle, cookie), want);
    }

    void count(int p, int what, int want) {
        due("count(" + p + ", " + what + ")", driver.count(p, what), want);
    }

    void handle(int p, int handle, int what, int want) {
        due("handle(" + p + ", " + handle + ", " + what + ")", driver.handle(p, handle, what), want);
    }

    void handleIs(int p, int handle, int strong, int weak, int process, int key, int dead) {
        handle(p, handle, 0, strong);
        handle(p, handle, 1, weak);
        handle(p, handle, 2, process);
        handle(p, handle, 3, key);
        handle(p, handle, 4, dead);
    }

    void noHandle(int p, int handle) {
        handleIs(p, handle, -1, -1, -1, -1, -1);
    }

    /** Process p has nothing at all. */
    void hasNothing(int p) {
        for (int what = 0; what <= 7; what++) {
            count(p, what, 0);
        }
        for (int handle = 0; handle <= 15; handle++) {
            noHandle(p, handle);
        }
        latestIs(p, 0, -1, -1, -1, 0);
        take(p, 0);
    }

    /**
     * Gives process 0 a handle for node key of process p, by a one-way message to the manager, node 0 of
     * process 0, whose buffer is freed again; the handle has STRONG 1 then.
     */
    void lend(int p, int key, int handle) {
        lend(p, 1, key, handle);
    }

    /** As above, with an item of any kind. */
    void lend(int p, int kind, int value, int handle) {
        draft(p, 0, true);
        item(p, kind, value, true);
        send(p, 0, true, 0);
        take(0, 2);
        int at = driver.latest(0, 2);
        reads(0, at, 0, 2, handle);
        hold(0, handle, true, true);
        free(0, at, true);
    }
}
