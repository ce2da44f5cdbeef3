import java.util.List;
import java.util.Random;
import java.util.TreeMap;
import java.util.function.Supplier;

/** Random runs of 512 calls, the same ones each time, whose every answer the model gives too. */
public final class RandomRunsTest {
    private static final int RUNS = 4000;
    private static final int CALLS = 512;

    private static final TreeMap<String, Integer> SEEN = new TreeMap<>();

    private final Random random;
    private final Checked x;
    private final ObjectDriver driver = new ObjectDriver();
    private final Model model = new Model();
    /** How seldom processes die in this run, how often buffers are freed, and how large drafts are. */
    private final int deaths;
    private final int frees;
    private final int sizes;

    private RandomRunsTest(int run) {
        random = new Random(run);
        x = new Checked("random run " + run);
        deaths = 1 + random.nextInt(12);
        frees = random.nextInt(12);
        sizes = 1 + random.nextInt(21);
    }

    public static void main(String[] args) {
        for (int run = 0; run < RUNS; run++) {
            new RandomRunsTest(run).run();
        }
        mustHaveSeen("send", 0, -1, -2, -3, -4, -5);
        mustHaveSeen("take", 0, 1, 2, 3, 4, 5);
        mustHaveSeen("reply", 0, -1, -2, -3, -4);
        mustHaveSeen("free", true, false);
        mustHaveSeen("watch", true, false);
        mustHaveSeen("hold", true, false);
        mustHaveSeen("drop", true, false);
        if (args.length > 0) {
            System.out.println(SEEN);
        }
        Checked.end();
    }

    /** Runs that never come to an answer would compare nothing of it. */
    private static void mustHaveSeen(String call, Object... answers) {
        Checked x = new Checked("random runs");
        for (Object answer : answers) {
            x.due(call + " has come to " + answer, SEEN.containsKey(call + " " + answer), true);
        }
    }

    private void run() {
        for (int p = 0; p < 4; p++) {
            change(0, p);
            change(8, p);
        }
        for (int n = 8; n < CALLS; n++) {
            int p = random.nextInt(50) == 0 ? random.nextInt(8) - 2 : random.nextInt(4);
            if (random.nextInt(4) == 0) {
                look(p);
            } else {
                change(random.nextInt(100), p);
            }
        }
    }

    private void change(int roll, int p) {
        ObjectDriver d = driver;
        if (roll < 6) {
            same("born", () -> { d.born(p); return "done"; }, () -> { model.born(p); return "done"; });
        } else if (roll < 8) {
            if (random.nextInt(deaths) == 0) {
                same("die", () -> { d.die(p); return "done"; }, () -> { model.die(p); return "done"; });
            }
        } else if (roll < 14) {
            int key = random.nextInt(30) == 0 ? random.nextInt(14) - 2 : random.nextInt(10);
            same("serve", () -> d.serve(p, key), () -> model.serve(p, key));
        } else if (roll < 18) {
            int key = key(p);
            same("manage", () -> d.manage(p, key), () -> model.manage(p, key));
        } else if (roll < 32) {
            int kind = random.nextInt(40) == 0 ? random.nextInt(7) - 2 : random.nextInt(3);
            int value = kind == 1 ? key(p) : random.nextInt(6) == 0 ? 0 : handle(p);
            same("item", () -> d.item(p, kind, value), () -> model.item(p, kind, value));
        } else if (roll < 38) {
            int size = random.nextInt(30) == 0 ? random.nextInt(40) - 10 : random.nextInt(sizes);
            same("draft", () -> d.draft(p, size), () -> model.draft(p, size));
        } else if (roll < 60) {
            int handle = random.nextInt(3) == 0 ? 0 : handle(p);
            boolean oneWay = random.nextBoolean();
            same("send", () -> d.send(p, handle, oneWay), () -> model.send(p, handle, oneWay));
        } else if (roll < 76) {
            same("take", () -> d.take(p), () -> model.take(p));
        } else if (roll < 82) {
            same("reply", () -> d.reply(p), () -> model.reply(p));
        } else if (roll < 82 + frees) {
            int at = place(p);
            same("free", () -> d.free(p, at), () -> model.free(p, at));
        } else {
            count(p);
        }
    }

    private void count(int p) {
        ObjectDriver d = driver;
        int handle = handle(p);
        boolean strong = random.nextBoolean();
        int cookie = random.nextInt(100);
        switch (random.nextInt(3)) {
            case 0 -> same("hold", () -> d.hold(p, handle, strong), () -> model.hold(p, handle, strong));
            case 1 -> same("drop", () -> d.drop(p, handle, strong), () -> model.drop(p, handle, strong));
            default -> same("watch", () -> d.watch(p, handle, cookie), () -> model.watch(p, handle, cookie));
        }
    }

    private void look(int p) {
        ObjectDriver d = driver;
        int what = random.nextInt(10) - 1;
        int handle = handle(p);
        int at = place(p);
        int k = random.nextInt(6) - 1;
        switch (random.nextInt(4)) {
            case 0 -> same("count", () -> d.count(p, what), () -> model.count(p, what));
            case 1 -> same("handle", () -> d.handle(p, handle, what), () -> model.handle(p, handle, what));
            case 2 -> same("latest", () -> d.latest(p, what), () -> model.latest(p, what));
            default -> same("read", () -> d.read(p, at, k, what), () -> model.read(p, at, k, what));
        }
    }

    private int key(int p) {
        return mostOften(model.keysOf(p), random.nextInt(14) - 2);
    }

    private int handle(int p) {
        return mostOften(model.handlesOf(p), random.nextInt(20) - 2);
    }

    private int place(int p) {
        return mostOften(model.buffersOf(p), random.nextInt(70) - 3);
    }

    private int mostOften(List<Integer> some, int other) {
        return some.isEmpty() || random.nextInt(20) == 0 ? other : some.get(random.nextInt(some.size()));
    }

    private void same(String call, Supplier<Object> real, Supplier<Object> reference) {
        Object want = answer(reference);
        SEEN.merge(call + " " + want, 1, Integer::sum);
        x.due(call, answer(real), want);
    }

    private static Object answer(Supplier<Object> call) {
        try {
            return call.get();
        } catch (IllegalArgumentException | IllegalStateException | java.util.NoSuchElementException e) {
            return e.getClass();
        }
    }
}
