import java.util.List;
import java.util.function.Function;

/**
 * What a driver answers later, after some calls: all that can be seen of it at once, and what comes out when
 * one goes on from there, in several ways, each with a new driver to which the same calls came.
 */
final class Probe {
    /** An object's answers are promised for so many calls. */
    static final int CALLS = 512;

    private static final int PROCESSES = 4;
    private static final String[] WAYS = {"look", "serve", "take", "reply", "die 0", "die 1", "die 2", "die 3"};

    private final ObjectDriver driver = new ObjectDriver();
    private final StringBuilder said = new StringBuilder();
    private int left;

    private Probe(List<Function<ObjectDriver, Object>> calls, int room) {
        for (Function<ObjectDriver, Object> call : calls) {
            answer(driver, call);
        }
        left = room;
    }

    /** The answer, or the class of the exception that the call throws. */
    static Object answer(ObjectDriver driver, Function<ObjectDriver, Object> call) {
        try {
            return call.apply(driver);
        } catch (RuntimeException e) {
            return e.getClass();
        }
    }

    /** A line for each call that is made, at most room of them in each way. */
    static String after(List<Function<ObjectDriver, Object>> calls, int room) {
        StringBuilder all = new StringBuilder();
        for (String way : WAYS) {
            Probe probe = new Probe(calls, room);
            probe.go(way);
            all.append(way).append('\n').append(probe.said);
        }
        return all.toString();
    }

    private void go(String way) {
        switch (way) {
            case "look" -> lookAtAll();
            case "serve" -> serveAll();
            case "take" -> sendAndTakeAll();
            case "reply" -> replyAll();
            default -> dieAndTake(way.charAt(way.length() - 1) - '0');
        }
    }

    /** The answer as an int, -9 when there is none (an exception, or no call is left). */
    private int ask(String call, Function<ObjectDriver, Object> run) {
        if (left <= 0) {
            return -9;
        }
        left--;
        Object got = answer(driver, run);
        said.append(call).append(": ").append(got).append('\n');
        if (got instanceof Boolean) {
            return got.equals(true) ? 1 : 0;
        }
        return got instanceof Integer ? (int) got : -9;
    }

    private boolean isAlive(int p) {
        return ask("count of " + p, d -> d.count(p, 1)) >= 0;
    }

    private void lookAtAll() {
        for (int p = 0; p < PROCESSES; p++) {
            if (isAlive(p)) {
                look(p);
            }
        }
        for (int p = 0; p < PROCESSES; p++) {
            if (isAlive(p)) {
                readAll(p);
            }
        }
    }

    private void look(int p) {
        for (int w = 0; w < 8; w++) {
            int what = w;
            ask("count " + p + " " + what, d -> d.count(p, what));
        }
        for (int w = 0; w < 5; w++) {
            int what = w;
            ask("latest " + p + " " + what, d -> d.latest(p, what));
        }
        for (int h = 1; h <= 15; h++) {
            int handle = h;
            int last = ask("handle " + p + " " + h, d -> d.handle(p, handle, 0)) < 0 ? 0 : 4;
            for (int w = 1; w <= last; w++) {
                int what = w;
                ask("handle " + p + " " + h + " " + w, d -> d.handle(p, handle, what));
            }
        }
    }

    /** Reads all buffers of p that can be read. */
    private void readAll(int p) {
        int inUse = ask("cells " + p, d -> d.count(p, 4));
        for (int cell = 0; cell < 64 && inUse > 0; cell++) {
            int at = cell;
            int cells = ask("read " + p + " " + at, d -> d.read(p, at, 0, 2));
            if (cells > 0) {
                readItems(p, at);
                inUse -= cells;
                cell += cells - 1;
            }
        }
    }

    private void readItems(int p, int at) {
        for (int item = 0; item < 4; item++) {
            int k = item;
            int kind = ask("kind " + p + " " + at + " " + k, d -> d.read(p, at, k, 0));
            if (kind < 0) {
                return;
            }
            ask("value " + p + " " + at + " " + k, d -> d.read(p, at, k, 1));
        }
    }

    /** Which nodes there are, and whether there is a manager. */
    private void serveAll() {
        for (int p = 0; p < PROCESSES; p++) {
            if (isAlive(p)) {
                serveAll(p);
            }
        }
    }

    private void serveAll(int p) {
        for (int k = 0; k < 10; k++) {
            int key = k;
            ask("serve " + p + " " + key, d -> d.serve(p, key));
        }
        ask("manage " + p, d -> d.manage(p, 5));
    }

    /** What lies in the drafts and in the inboxes, and what waits to come into them. */
    private void sendAndTakeAll() {
        for (int q = 0; q < PROCESSES; q++) {
            int p = q;
            if (isAlive(p)) {
                ask("serve " + p, d -> d.serve(p, 9));
                ask("manage " + p, d -> d.manage(p, 9));
                ask("send " + p, d -> d.send(p, 0, true));
            }
        }
        for (int p = 0; p < PROCESSES; p++) {
            if (isAlive(p)) {
                takeAll(p);
            }
        }
    }

    private void takeAll(int p) {
        for (int n = 0; n < 40; n++) {
            int kind = ask("take " + p, d -> d.take(p));
            if (kind <= 0) {
                return;
            }
            ask("key " + p, d -> d.latest(p, 1));
            ask("sender " + p, d -> d.latest(p, 3));
            ask("cookie " + p, d -> d.latest(p, 4));
            int at = ask("at " + p, d -> d.latest(p, 2));
            if (at >= 0) {
                ask("cells " + p + " " + at, d -> d.read(p, at, 0, 2));
                readItems(p, at);
                ask("free " + p + " " + at, d -> d.free(p, at));
            }
        }
    }

    /** Whose calls are open, in which order, and with which drafts they would be answered. */
    private void replyAll() {
        for (int q = 0; q < PROCESSES; q++) {
            int p = q;
            int answer = isAlive(p) ? 0 : -1;
            for (int n = 0; n < 13 && (answer == 0 || answer == -2); n++) {
                answer = ask("reply " + p, d -> d.reply(p));
            }
            ask("call " + p, d -> d.send(p, 0, false));
        }
        for (int p = 0; p < PROCESSES; p++) {
            if (isAlive(p)) {
                takeAll(p);
            }
        }
    }

    /** Who is told when a process dies. */
    private void dieAndTake(int gone) {
        ask("die " + gone, d -> {
            d.die(gone);
            return 1;
        });
        for (int q = 0; q < PROCESSES; q++) {
            int p = q;
            if (isAlive(p)) {
                ask("watches of " + p, d -> d.count(p, 6));
                takeAll(p);
            }
        }
    }
}
