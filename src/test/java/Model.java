import java.util.ArrayDeque;
import java.util.ArrayList;
import java.util.Deque;
import java.util.Iterator;
import java.util.LinkedHashSet;
import java.util.List;
import java.util.NoSuchElementException;
import java.util.Set;
import java.util.TreeMap;

/** The document once more, written with the Java library and in no hurry, to compare the class with. */
final class Model {
    record Node(int p, int life, int key) { }

    record Item(int kind, int value) { }

    record Watch(Node node, int cookie) { }

    static final class Counts {
        final Node node;
        int strong;
        int weak;

        Counts(Node node) {
            this.node = node;
        }
    }

    /** A work of any kind; one of kind 1 to 3 has a buffer. */
    static final class Work {
        int kind;
        Node node;
        int at = -1;
        int sender = -1;
        int senderLife;
        int cookie;
        int cells;
        boolean taken;
        final List<Item> items = new ArrayList<>();
        final List<Node> holds = new ArrayList<>();
    }

    static final class State {
        final Set<Integer> keys = new LinkedHashSet<>();
        final TreeMap<Integer, Counts> handles = new TreeMap<>();
        final TreeMap<Integer, Work> area = new TreeMap<>();
        final Deque<Work> inbox = new ArrayDeque<>();
        final Deque<Work> open = new ArrayDeque<>();
        final List<Work> waiting = new ArrayList<>();
        final List<Watch> watches = new ArrayList<>();
        final List<Item> items = new ArrayList<>();
        int size;
        boolean waits;
        Work latest = new Work();
    }

    private final State[] states = new State[4];
    private final int[] lives = new int[4];
    private Node manager;

    private State of(int p) {
        if (p < 0 || p > 3) {
            throw new IllegalArgumentException();
        }
        if (states[p] == null) {
            throw new IllegalStateException();
        }
        return states[p];
    }

    /** What p has, for runs that are to come far: its keys, handles, and where buffers begin. */
    List<Integer> keysOf(int p) {
        return lives(p) ? new ArrayList<>(states[p].keys) : List.of();
    }

    List<Integer> handlesOf(int p) {
        return lives(p) ? new ArrayList<>(states[p].handles.keySet()) : List.of();
    }

    List<Integer> buffersOf(int p) {
        return lives(p) ? new ArrayList<>(states[p].area.keySet()) : List.of();
    }

    /** As count(), 0 when p is not alive. */
    int amount(int p, int what) {
        return lives(p) ? count(p, what) : 0;
    }

    boolean lives(int p) {
        return p >= 0 && p <= 3 && states[p] != null;
    }

    private boolean isDead(Node node) {
        return states[node.p] == null || lives[node.p] != node.life;
    }

    void born(int p) {
        if (p < 0 || p > 3) {
            throw new IllegalArgumentException();
        }
        if (states[p] != null) {
            throw new IllegalStateException();
        }
        states[p] = new State();
        lives[p]++;
    }

    void die(int p) {
        State gone = of(p);
        states[p] = null;
        if (manager != null && manager.p == p) {
            manager = null;
        }
        List<Work> calls = new ArrayList<>(gone.inbox);
        calls.removeIf(work -> work.kind != 1);
        calls.addAll(gone.open);
        for (Work call : calls) {
            if (states[call.sender] != null && lives[call.sender] == call.senderLife) {
                Work failed = new Work();
                failed.kind = 5;
                states[call.sender].inbox.add(failed);
            }
        }
        for (State state : states) {
            if (state != null) {
                for (Iterator<Watch> i = state.watches.iterator(); i.hasNext(); ) {
                    Watch watch = i.next();
                    if (isDead(watch.node)) {
                        i.remove();
                        state.inbox.add(death(watch.cookie));
                    }
                }
            }
        }
    }

    private static Work death(int cookie) {
        Work work = new Work();
        work.kind = 4;
        work.cookie = cookie;
        return work;
    }

    boolean serve(int p, int key) {
        State state = of(p);
        return key >= 0 && key <= 9 && state.keys.add(key);
    }

    boolean manage(int p, int key) {
        if (!of(p).keys.contains(key) || manager != null) {
            return false;
        }
        manager = new Node(p, lives[p], key);
        return true;
    }

    boolean item(int p, int kind, int value) {
        State state = of(p);
        return state.items.size() < 4 && kind >= 0 && kind <= 2 && state.items.add(new Item(kind, value));
    }

    boolean draft(int p, int size) {
        State state = of(p);
        if (size < 0 || size > 20) {
            return false;
        }
        state.size = size;
        state.items.clear();
        return true;
    }

    private Node strongNode(State state, int handle) {
        if (handle == 0) {
            return manager;
        }
        Counts counts = state.handles.get(handle);
        return counts == null || counts.strong == 0 ? null : counts.node;
    }

    int send(int p, int handle, boolean oneWay) {
        State state = of(p);
        Node node = strongNode(state, handle);
        if (node == null) {
            return -1;
        }
        if (isDead(node)) {
            return -2;
        }
        if (!oneWay && state.waits) {
            return -5;
        }
        Work work = new Work();
        work.kind = oneWay ? 2 : 1;
        work.node = node;
        int answer = message(p, node.p, work);
        if (answer == 0 && !oneWay) {
            state.waits = true;
        }
        return answer;
    }

    private int message(int p, int q, Work work) {
        State from = states[p];
        State to = states[q];
        List<Node> nodes = new ArrayList<>();
        for (Item item : from.items) {
            Node node = null;
            if (item.kind == 1 && from.keys.contains(item.value)) {
                node = new Node(p, lives[p], item.value);
            } else if (item.kind == 2) {
                node = strongNode(from, item.value);
            }
            if (node == null && item.kind != 0) {
                return -3;
            }
            nodes.add(node);
        }
        boolean waits = work.kind == 2 && to.area.values().stream()
                .anyMatch(other -> other.kind == 2 && other.node.equals(work.node));
        if (to.inbox.size() >= 12 && !waits) {
            return -4;
        }
        work.cells = Math.max(from.size + from.items.size(), 1);
        work.at = place(to, work.cells);
        if (work.at < 0 || work.kind == 2 && cells(to, true) + work.cells > 32) {
            return -4;
        }
        Set<Node> known = new LinkedHashSet<>();
        to.handles.values().forEach(counts -> known.add(counts.node));
        nodes.stream().filter(node -> node != null && !isOwn(q, node)).forEach(known::add);
        if (known.size() > 15) {
            return -4;
        }
        work.sender = p;
        work.senderLife = lives[p];
        for (int k = 0; k < nodes.size(); k++) {
            work.items.add(carry(q, from.items.get(k), nodes.get(k), work));
        }
        to.area.put(work.at, work);
        (waits ? to.waiting : to.inbox).add(work);
        from.items.clear();
        from.size = 0;
        return 0;
    }

    private boolean isOwn(int q, Node node) {
        return node.p == q && !isDead(node);
    }

    private Item carry(int q, Item item, Node node, Work work) {
        if (node == null) {
            return item;
        }
        if (isOwn(q, node)) {
            return new Item(1, node.key);
        }
        TreeMap<Integer, Counts> handles = states[q].handles;
        int number = 0;
        for (int n = 15; n >= 1; n--) {
            if (handles.containsKey(n) && handles.get(n).node.equals(node)) {
                number = n;
            }
        }
        for (int n = 1; number == 0; n++) {
            if (!handles.containsKey(n)) {
                handles.put(n, new Counts(node));
                number = n;
            }
        }
        handles.get(number).strong++;
        work.holds.add(node);
        return new Item(2, number);
    }

    private static int place(State to, int cells) {
        boolean[] used = new boolean[65];
        used[64] = true;
        for (Work work : to.area.values()) {
            for (int c = 0; c < work.cells; c++) {
                used[work.at + c] = true;
            }
        }
        for (int length = cells; length <= 64; length++) {
            for (int at = 0; at + length <= 64; at++) {
                if ((at == 0 || used[at - 1]) && used[at + length] && isFree(used, at, length)) {
                    return at;
                }
            }
        }
        return -1;
    }

    private static boolean isFree(boolean[] used, int at, int length) {
        for (int c = at; c < at + length; c++) {
            if (used[c]) {
                return false;
            }
        }
        return true;
    }

    private static int cells(State state, boolean oneWay) {
        return state.area.values().stream().filter(work -> !oneWay || work.kind == 2)
                .mapToInt(work -> work.cells).sum();
    }

    int take(int p) {
        State state = of(p);
        Work work = state.inbox.peek();
        if (work == null || work.kind == 1 && state.open.size() == 12) {
            return 0;
        }
        state.inbox.remove();
        state.latest = work;
        work.taken = true;
        if (work.kind == 1) {
            state.open.push(work);
        }
        if (work.kind == 3 || work.kind == 5) {
            state.waits = false;
        }
        return work.kind;
    }

    int latest(int p, int what) {
        Work work = of(p).latest;
        return switch (what) {
            case 0 -> work.kind;
            case 1 -> work.node == null ? -1 : work.node.key;
            case 2 -> work.at;
            case 3 -> work.sender;
            case 4 -> work.cookie;
            default -> throw new NoSuchElementException();
        };
    }

    int reply(int p) {
        State state = of(p);
        Work call = state.open.peek();
        if (call == null) {
            return -1;
        }
        if (states[call.sender] == null || lives[call.sender] != call.senderLife) {
            state.open.pop();
            return -2;
        }
        Work work = new Work();
        work.kind = 3;
        int answer = message(p, call.sender, work);
        if (answer == 0) {
            state.open.pop();
        }
        return answer;
    }

    boolean free(int p, int at) {
        State state = of(p);
        Work work = state.area.get(at);
        if (work == null || !work.taken) {
            return false;
        }
        state.area.remove(at);
        for (Node node : work.holds) {
            state.handles.values().stream().filter(counts -> counts.node.equals(node) && counts.strong > 0)
                    .forEach(counts -> counts.strong--);
            forget(state);
        }
        for (int i = 0; i < state.waiting.size() && work.kind == 2; i++) {
            if (state.waiting.get(i).node.equals(work.node)) {
                state.inbox.add(state.waiting.remove(i));
                break;
            }
        }
        return true;
    }

    private static void forget(State state) {
        state.handles.values().removeIf(counts -> counts.strong == 0 && counts.weak == 0);
    }

    int read(int p, int at, int k, int what) {
        Work work = of(p).area.get(at);
        if (work == null || !work.taken || what < 0 || what > 2
                || what != 2 && (k < 0 || k >= work.items.size())) {
            throw new NoSuchElementException();
        }
        return what == 2 ? work.cells : what == 0 ? work.items.get(k).kind : work.items.get(k).value;
    }

    boolean hold(int p, int handle, boolean strong) {
        Counts counts = of(p).handles.get(handle);
        if (counts == null || strong && counts.strong == 0) {
            return false;
        }
        counts.strong += strong ? 1 : 0;
        counts.weak += strong ? 0 : 1;
        return true;
    }

    boolean drop(int p, int handle, boolean strong) {
        State state = of(p);
        Counts counts = state.handles.get(handle);
        if (counts == null || (strong ? counts.strong : counts.weak) == 0) {
            return false;
        }
        counts.strong -= strong ? 1 : 0;
        counts.weak -= strong ? 0 : 1;
        forget(state);
        return true;
    }

    boolean watch(int p, int handle, int cookie) {
        State state = of(p);
        Counts counts = state.handles.get(handle);
        if (counts == null || state.watches.size() == 8
                || state.inbox.size() + state.watches.size() >= 24) {
            return false;
        }
        if (isDead(counts.node)) {
            return state.inbox.add(death(cookie));
        }
        return state.watches.add(new Watch(counts.node, cookie));
    }

    int count(int p, int what) {
        State state = of(p);
        return switch (what) {
            case 0 -> state.handles.size();
            case 1 -> state.inbox.size();
            case 2 -> state.open.size();
            case 3 -> state.waits ? 1 : 0;
            case 4 -> cells(state, false);
            case 5 -> cells(state, true);
            case 6 -> state.watches.size();
            case 7 -> state.items.size();
            default -> -1;
        };
    }

    int handle(int p, int handle, int what) {
        Counts counts = of(p).handles.get(handle);
        if (counts == null) {
            return -1;
        }
        return switch (what) {
            case 0 -> counts.strong;
            case 1 -> counts.weak;
            case 2 -> counts.node.p;
            case 3 -> counts.node.key;
            case 4 -> isDead(counts.node) ? 1 : 0;
            default -> -1;
        };
    }
}
