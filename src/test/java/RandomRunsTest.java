import java.util.List;
import java.util.Random;
import java.util.TreeMap;
import java.util.function.Supplier;

/** Random runs of 512 calls, the same ones each time, whose every answer the model gives too. */
public final class RandomRunsTest {
    private static final int RUNS = 6000;
    private static final int CALLS = 512;

    private static final String[] CHANGES = {
        "born", "die", "serve", "manage", "item", "draft", "send", "take", "reply", "free", "hold", "drop", "watch",
    };
    private static final int[] WEIGHTS = {40, 16, 80, 40, 280, 60, 440, 320, 160, 240, 60, 40, 100};

    private static final TreeMap<String, Integer> SEEN = new TreeMap<>();
    private static final int[] MOST = new int[8];

    private final Random random;
    private final Checked x;
    private final ObjectDriver driver = new ObjectDriver();
    private final Model model = new Model();
    /** How often each call comes in this run, so that some runs fill what others leave empty. */
    private final int[] weights = new int[CHANGES.length];
    private int allWeights;
    private int calls;
    private final int sizes;
    private final int oneWays;
    private final int numbers;

    private RandomRunsTest(int run) {
        random = new Random(run);
        x = new Checked("random run " + run);
        sizes = 1 + random.nextInt(random.nextBoolean() ? 2 : 21);
        oneWays = random.nextInt(11);
        numbers = random.nextInt(11);
        for (int n = 0; n < weights.length; n++) {
            double part = random.nextDouble();
            weights[n] = 1 + (int) (WEIGHTS[n] * part * part);
            allWeights += weights[n];
        }
    }

    public static void main(String[] args) {
        for (int run = 0; run < RUNS; run++) {
            new RandomRunsTest(run).run();
        }
        if (args.length > 0) {
            System.out.println(SEEN + " " + java.util.Arrays.toString(MOST));
        }
        mustHaveSeen("send", 0, -1, -2, -3, -4, -5);
        mustHaveSeen("take", 0, 1, 2, 3, 4, 5);
        mustHaveSeen("reply", 0, -1, -2, -3, -4);
        mustHaveSeen("free", true, false);
        mustHaveSeen("watch", true, false);
        mustHaveSeen("hold", true, false);
        mustHaveSeen("drop", true, false);
        mustHaveReached(15, 13, 12, 1, 64, 32, 8, 4);
        Checked.end();
    }

    /** Runs that never come to an answer would compare nothing of it. */
    private static void mustHaveSeen(String call, Object... answers) {
        Checked x = new Checked("random runs");
        for (Object answer : answers) {
            x.due(call + " has come to " + answer, SEEN.containsKey(call + " " + answer), true);
        }
    }

    /** As above: the most that count() has told, for each what. */
    private static void mustHaveReached(int... most) {
        Checked x = new Checked("random runs");
        for (int what = 0; what < most.length; what++) {
            x.due("count " + what + " has come to " + most[what], MOST[what] >= most[what], true);
        }
    }

    private void run() {
        int keys = 1 + random.nextInt(10);
        for (int p = 0; p < 4; p++) {
            born(p);
            for (int key = 0; key < keys; key++) {
                serve(p, key);
            }
        }
        change("manage", random.nextInt(4));
        open(random.nextInt(8), 11 + random.nextInt(3));
        while (calls < CALLS) {
            String call = anyChange();
            if (random.nextInt(4) == 0) {
                look(anyProcess("look"));
            } else {
                change(call, anyProcess(call));
            }
        }
    }

    /** Some runs begin near an end that runs seldom come to by chance: handles, open calls, works. */
    private void open(int way, int n) {
        if (way > 2) {
            return;
        }
        for (int made = 0; made < n; made++) {
            if (way == 0) {
                int own = made < 10 ? 1 : 2;
                serve(own, made % 10);
                item(own, 1, made % 10);
                send(own, 0, true);
            } else {
                send(3, 0, false);
                die(3);
                born(3);
            }
            if (way == 1) {
                take(0);
                take(1);
                take(2);
            }
        }
    }

    /** Most often one that is alive and has what the call needs to be done. */
    private int anyProcess(String call) {
        int p = random.nextInt(50) == 0 ? random.nextInt(8) - 2 : random.nextInt(4);
        for (int n = 0; n < 6 && !fits(call, p); n++) {
            p = random.nextInt(4);
        }
        return p;
    }

    private boolean fits(String call, int p) {
        return switch (call) {
            case "born" -> !model.lives(p);
            case "die" -> model.lives(p) && (model.keysOf(p).isEmpty() || random.nextInt(3) == 0);
            case "take" -> model.amount(p, 1) > 0;
            case "reply" -> model.amount(p, 2) > 0;
            case "free" -> model.amount(p, 4) > 0;
            case "hold", "drop", "watch" -> model.amount(p, 0) > 0;
            default -> model.lives(p);
        };
    }

    private String anyChange() {
        int roll = random.nextInt(allWeights);
        int n = 0;
        while (roll >= weights[n]) {
            roll -= weights[n];
            n++;
        }
        return CHANGES[n];
    }

    private void change(String call, int p) {
        int handle = handle(p);
        boolean strong = random.nextBoolean();
        int cookie = random.nextInt(100);
        switch (call) {
            case "born" -> born(p);
            case "die" -> die(p);
            case "serve" -> serve(p, random.nextInt(30) == 0 ? random.nextInt(14) - 2 : random.nextInt(10));
            case "take" -> take(p);
            case "reply" -> same(call, () -> driver.reply(p), () -> model.reply(p));
            case "hold" -> same(call, () -> driver.hold(p, handle, strong), () -> model.hold(p, handle, strong));
            case "drop" -> same(call, () -> driver.drop(p, handle, strong), () -> model.drop(p, handle, strong));
            case "watch" -> same(call, () -> driver.watch(p, handle, cookie), () -> model.watch(p, handle, cookie));
            default -> changeMore(call, p);
        }
    }

    private void changeMore(String call, int p) {
        int key = key(p);
        int at = place(p);
        int handle = random.nextInt(3) == 0 || model.handlesOf(p).isEmpty() && random.nextBoolean() ? 0 : handle(p);
        int size = random.nextInt(30) == 0 ? random.nextInt(40) - 10 : random.nextInt(sizes);
        int kind = random.nextInt(40) == 0 ? random.nextInt(7) - 2 : anyKind();
        switch (call) {
            case "manage" -> same(call, () -> driver.manage(p, key), () -> model.manage(p, key));
            case "item" -> item(p, kind, kind == 1 ? key : handle);
            case "draft" -> same(call, () -> driver.draft(p, size), () -> model.draft(p, size));
            case "send" -> send(p, handle, random.nextInt(10) < oneWays);
            default -> same(call, () -> driver.free(p, at), () -> model.free(p, at));
        }
    }

    private void born(int p) {
        same("born", () -> { driver.born(p); return "done"; }, () -> { model.born(p); return "done"; });
    }

    private void die(int p) {
        same("die", () -> { driver.die(p); return "done"; }, () -> { model.die(p); return "done"; });
    }

    private void serve(int p, int key) {
        same("serve", () -> driver.serve(p, key), () -> model.serve(p, key));
    }

    private void item(int p, int kind, int value) {
        same("item", () -> driver.item(p, kind, value), () -> model.item(p, kind, value));
    }

    private void send(int p, int handle, boolean oneWay) {
        same("send", () -> driver.send(p, handle, oneWay), () -> model.send(p, handle, oneWay));
    }

    private void take(int p) {
        same("take", () -> driver.take(p), () -> model.take(p));
    }

    private int anyKind() {
        return random.nextInt(10) < numbers ? 0 : 1 + random.nextInt(2);
    }

    private void look(int p) {
        int what = random.nextInt(10) - 1;
        int handle = handle(p);
        int at = place(p);
        int k = random.nextInt(6) - 1;
        switch (random.nextInt(4)) {
            case 0 -> reached(what, same("count", () -> driver.count(p, what), () -> model.count(p, what)));
            case 1 -> same("handle", () -> driver.handle(p, handle, what), () -> model.handle(p, handle, what));
            case 2 -> same("latest", () -> driver.latest(p, what), () -> model.latest(p, what));
            default -> same("read", () -> driver.read(p, at, k, what), () -> model.read(p, at, k, what));
        }
    }

    private static void reached(int what, Object answer) {
        if (what >= 0 && what < MOST.length && answer instanceof Integer count) {
            MOST[what] = Math.max(MOST[what], count);
        }
    }

    private int key(int p) {
        return mostOften(model.keysOf(p), random.nextInt(14) - 2);
    }

    private int handle(int p) {
        return mostOften(model.handlesOf(p), random.nextInt(20) - 2);
    }

    private int place(int p) {
        return mostOften(model.buffersOf(p), random.nextInt(70) - 3);
    }

    private int mostOften(List<Integer> some, int other) {
        return some.isEmpty() || random.nextInt(20) == 0 ? other : some.get(random.nextInt(some.size()));
    }

    private Object same(String call, Supplier<Object> real, Supplier<Object> reference) {
        calls++;
        Object want = answer(reference);
        SEEN.merge(call + " " + want, 1, Integer::sum);
        x.due(call, answer(real), want);
        return want;
    }

    private static Object answer(Supplier<Object> call) {
        try {
            return call.get();
        } catch (IllegalArgumentException | IllegalStateException | java.util.NoSuchElementException e) {
            return e.getClass();
        }
    }
}
