import java.util.ArrayList;
import java.util.NoSuchElementException;

/** A driver by which processes call objects of one another. README.md says how it is used. */
public final class ObjectDriver {
    private static final int PROCESSES = 4;
    private static final int KEYS = 10;
    private static final int HANDLES = 15;
    private static final int AREA_CELLS = 64;
    private static final int ONE_WAY_CELLS = 32;
    private static final int INBOX_WORKS = 12;
    private static final int OPEN_CALLS = 12;
    private static final int DRAFT_ITEMS = 4;
    private static final int DRAFT_SIZE = 20;
    private static final int WATCHES = 8;
    private static final int WORKS_AND_WATCHES = 24;

    /** The handle that stands for the manager in every process. */
    private static final int MANAGER = 0;

    private static final int NUMBER = 0;
    private static final int OWN = 1;
    private static final int HANDLE = 2;

    private static final int NO_WORK = 0;
    private static final int CALL = 1;
    private static final int ONE_WAY = 2;
    private static final int REPLY = 3;
    private static final int DEATH = 4;
    private static final int FAILED = 5;

    private static final int DONE = 0;
    private static final int NOBODY = -1;
    private static final int DEAD = -2;
    private static final int BAD = -3;
    private static final int FULL = -4;
    private static final int WAITING = -5;

    private static final int NONE = -1;

    private final Proc[] procs = new Proc[PROCESSES];
    private Node manager;

    public ObjectDriver() {
        for (int p = 0; p < PROCESSES; p++) {
            procs[p] = new Proc(p);
        }
    }

    public void born(int p) throws IllegalArgumentException, IllegalStateException {
        Proc proc = existing(p);
        if (proc.alive) {
            throw new IllegalStateException("the process is alive");
        }
        proc.alive = true;
        proc.life++;
    }

    public void die(int p) throws IllegalArgumentException, IllegalStateException {
        Proc gone = living(p);
        gone.alive = false;
        if (manager != null && manager.owner == p) {
            manager = null;
        }
        gone.endNodes();
        for (int q = 0; q < PROCESSES; q++) {
            if (gone.hasCallOf(procs[q])) {
                procs[q].inbox.add(new Work(FAILED, null, 0));
            }
        }
        gone.empty();
        for (int q = 0; q < PROCESSES; q++) {
            procs[q].endWatchesOfTheDead();
        }
    }

    public boolean serve(int p, int key) throws IllegalArgumentException, IllegalStateException {
        Proc proc = living(p);
        if (key < 0 || key >= KEYS || proc.nodes[key] != null) {
            return false;
        }
        proc.nodes[key] = new Node(p, key);
        return true;
    }

    public boolean manage(int p, int key) throws IllegalArgumentException, IllegalStateException {
        Node node = living(p).nodeAt(key);
        if (node == null || manager != null) {
            return false;
        }
        manager = node;
        return true;
    }

    public boolean item(int p, int kind, int value) throws IllegalArgumentException, IllegalStateException {
        return living(p).draft.append(kind, value);
    }

    public boolean draft(int p, int size) throws IllegalArgumentException, IllegalStateException {
        Proc proc = living(p);
        if (size < 0 || size > DRAFT_SIZE) {
            return false;
        }
        proc.draft.begin(size);
        return true;
    }

    public int send(int p, int handle, boolean oneWay) throws IllegalArgumentException, IllegalStateException {
        Proc from = living(p);
        Node node = strongNode(from, handle);
        if (node == null) {
            return NOBODY;
        }
        if (node.dead) {
            return DEAD;
        }
        if (!oneWay && from.waits) {
            return WAITING;
        }
        int answer = post(from, procs[node.owner], node, oneWay ? ONE_WAY : CALL);
        if (answer == DONE && !oneWay) {
            from.waits = true;
        }
        return answer;
    }

    public int take(int p) throws IllegalArgumentException, IllegalStateException {
        Proc proc = living(p);
        if (proc.inbox.isEmpty()) {
            return NO_WORK;
        }
        Work work = proc.inbox.get(0);
        if (work.kind == CALL && proc.open.size() >= OPEN_CALLS) {
            return NO_WORK;
        }
        proc.inbox.remove(0);
        proc.accept(work);
        return work.kind;
    }

    public int latest(int p, int what)
            throws IllegalArgumentException, IllegalStateException, NoSuchElementException {
        Work work = living(p).latest;
        switch (what) {
            case 0:
                return work == null ? NO_WORK : work.kind;
            case 1:
                return work == null ? NONE : work.nodeKey();
            case 2:
                return work == null || work.message == null ? NONE : work.message.at;
            case 3:
                return work == null || work.message == null ? NONE : work.message.sender;
            case 4:
                return work == null ? 0 : work.cookie;
            default:
                throw new NoSuchElementException("no such part of a work");
        }
    }

    public int reply(int p) throws IllegalArgumentException, IllegalStateException {
        Proc from = living(p);
        if (from.open.isEmpty()) {
            return NOBODY;
        }
        int last = from.open.size() - 1;
        Message call = from.open.get(last);
        Proc caller = procs[call.sender];
        if (!call.isFrom(caller)) {
            from.open.remove(last);
            return DEAD;
        }
        int answer = post(from, caller, null, REPLY);
        if (answer == DONE) {
            from.open.remove(last);
        }
        return answer;
    }

    public boolean free(int p, int at) throws IllegalArgumentException, IllegalStateException {
        Proc proc = living(p);
        Message message = proc.area.takenAt(at);
        if (message == null) {
            return false;
        }
        proc.area.remove(message);
        for (int k = 0; k < message.items; k++) {
            proc.handles.loseStrong(message.held[k]);
        }
        if (message.kind == ONE_WAY) {
            proc.startNextOneWay(message.node);
        }
        return true;
    }

    public int read(int p, int at, int k, int what)
            throws IllegalArgumentException, IllegalStateException, NoSuchElementException {
        Message message = living(p).area.takenAt(at);
        if (message == null) {
            throw new NoSuchElementException("no buffer whose work was taken begins there");
        }
        if (what == 2) {
            return message.cells;
        }
        if (k < 0 || k >= message.items) {
            throw new NoSuchElementException("no such item");
        }
        if (what == 0) {
            return message.kinds[k];
        }
        if (what == 1) {
            return message.values[k];
        }
        throw new NoSuchElementException("no such part of an item");
    }

    public boolean hold(int p, int handle, boolean strong)
            throws IllegalArgumentException, IllegalStateException {
        return living(p).handles.addTo(handle, strong);
    }

    public boolean drop(int p, int handle, boolean strong)
            throws IllegalArgumentException, IllegalStateException {
        return living(p).handles.takeFrom(handle, strong);
    }

    public boolean watch(int p, int handle, int cookie)
            throws IllegalArgumentException, IllegalStateException {
        Proc proc = living(p);
        if (!proc.handles.has(handle) || !proc.hasRoomForWatch()) {
            return false;
        }
        proc.watchNode(proc.handles.nodes[handle], cookie);
        return true;
    }

    public int count(int p, int what) throws IllegalArgumentException, IllegalStateException {
        Proc proc = living(p);
        switch (what) {
            case 0:
                return proc.handles.inUse;
            case 1:
                return proc.inbox.size();
            case 2:
                return proc.open.size();
            case 3:
                return proc.waits ? 1 : 0;
            case 4:
                return proc.area.used;
            case 5:
                return proc.area.usedOneWay;
            case 6:
                return proc.watches.size();
            case 7:
                return proc.draft.items;
            default:
                return NONE;
        }
    }

    public int handle(int p, int handle, int what) throws IllegalArgumentException, IllegalStateException {
        Handles handles = living(p).handles;
        if (!handles.has(handle)) {
            return NONE;
        }
        Node node = handles.nodes[handle];
        switch (what) {
            case 0:
                return handles.strong[handle];
            case 1:
                return handles.weak[handle];
            case 2:
                return node.owner;
            case 3:
                return node.key;
            case 4:
                return node.dead ? 1 : 0;
            default:
                return NONE;
        }
    }

    private Proc existing(int p) {
        if (p < 0 || p >= PROCESSES) {
            throw new IllegalArgumentException("there is no such process");
        }
        return procs[p];
    }

    private Proc living(int p) {
        Proc proc = existing(p);
        if (!proc.alive) {
            throw new IllegalStateException("the process is not alive");
        }
        return proc;
    }

    private Node strongNode(Proc proc, int handle) {
        return handle == MANAGER ? manager : proc.handles.strongNode(handle);
    }

    /** Sends the draft with the work it makes; node is null for a reply. Answers DONE, BAD or FULL. */
    private int post(Proc from, Proc to, Node node, int kind) {
        Draft draft = from.draft;
        if (!findNodes(from, draft)) {
            return BAD;
        }
        boolean mustWait = kind == ONE_WAY && node != null && node.busy;
        if (!mustWait && to.inbox.size() >= INBOX_WORKS) {
            return FULL;
        }
        if (!to.hasRoomFor(draft, kind)) {
            return FULL;
        }
        Message message = new Message(kind, from.number, from.life, node, draft);
        to.area.put(message);
        to.receiveItems(draft, message);
        draft.begin(0);
        if (mustWait) {
            node.queue(message);
        } else {
            to.deliver(message);
        }
        return DONE;
    }

    /** Finds the nodes that the draft's items stand for; false when one that is no number has none. */
    private boolean findNodes(Proc from, Draft draft) {
        for (int k = 0; k < draft.items; k++) {
            draft.nodes[k] = findNode(from, draft.kinds[k], draft.values[k]);
            if (draft.nodes[k] == null && draft.kinds[k] != NUMBER) {
                return false;
            }
        }
        return true;
    }

    private Node findNode(Proc from, int kind, int value) {
        switch (kind) {
            case OWN:
                return from.nodeAt(value);
            case HANDLE:
                return strongNode(from, value);
            default:
                return null;
        }
    }

    /** An object of a process, with the one-way messages that wait for their turn at it. */
    private static final class Node {
        final int owner;
        final int key;
        boolean dead;
        /** Whether a one-way message came whose buffer is not freed. */
        boolean busy;
        Message firstWaiting;
        Message lastWaiting;

        Node(int owner, int key) {
            this.owner = owner;
            this.key = key;
        }

        void end() {
            dead = true;
            firstWaiting = null;
            lastWaiting = null;
        }

        void queue(Message message) {
            if (lastWaiting == null) {
                firstWaiting = message;
            } else {
                lastWaiting.nextWaiting = message;
            }
            lastWaiting = message;
        }

        /** The message whose turn it is now, no longer waiting; null when none waits. */
        Message unqueue() {
            Message message = firstWaiting;
            if (message == null) {
                return null;
            }
            firstWaiting = message.nextWaiting;
            if (firstWaiting == null) {
                lastWaiting = null;
            }
            message.nextWaiting = null;
            return message;
        }
    }

    /** What a process is about to send. */
    private static final class Draft {
        final int[] kinds = new int[DRAFT_ITEMS];
        final int[] values = new int[DRAFT_ITEMS];
        /** What the items stand for (null for a number), found anew each time the draft is to be sent. */
        final Node[] nodes = new Node[DRAFT_ITEMS];
        int items;
        int size;

        void begin(int newSize) {
            size = newSize;
            items = 0;
        }

        boolean append(int kind, int value) {
            if (items >= DRAFT_ITEMS || kind < NUMBER || kind > HANDLE) {
                return false;
            }
            kinds[items] = kind;
            values[items] = value;
            items++;
            return true;
        }

        int cells() {
            return Math.max(1, size + items);
        }

        boolean hasNodeBefore(int item) {
            for (int k = 0; k < item; k++) {
                if (nodes[k] == nodes[item]) {
                    return true;
                }
            }
            return false;
        }
    }

    /** A message and the buffer in which it lies. */
    private static final class Message {
        final int kind;
        final int sender;
        final int senderLife;
        /** The node that it was sent to; null for a reply. */
        final Node node;
        final int cells;
        final int items;
        final int[] kinds;
        final int[] values;
        /** Kept by node, not by handle number: a number may stand for another node when it is freed. */
        final Node[] held;
        int at;
        boolean taken;
        Message nextWaiting;

        Message(int kind, int sender, int senderLife, Node node, Draft draft) {
            this.kind = kind;
            this.sender = sender;
            this.senderLife = senderLife;
            this.node = node;
            cells = draft.cells();
            items = draft.items;
            kinds = new int[items];
            values = new int[items];
            held = new Node[items];
        }

        void setItem(int k, int itemKind, int value) {
            kinds[k] = itemKind;
            values[k] = value;
        }

        /** Whether the process that sent it lives on (one that was born again is another one). */
        boolean isFrom(Proc proc) {
            return proc.alive && proc.number == sender && proc.life == senderLife;
        }
    }

    /** What lies in an inbox. */
    private static final class Work {
        final int kind;
        /** Null for DEATH and FAILED. */
        final Message message;
        final int cookie;

        Work(int kind, Message message, int cookie) {
            this.kind = kind;
            this.message = message;
            this.cookie = cookie;
        }

        int nodeKey() {
            return message == null || message.node == null ? NONE : message.node.key;
        }
    }

    private static final class Watch {
        final Node node;
        final int cookie;

        Watch(Node node, int cookie) {
            this.node = node;
            this.cookie = cookie;
        }
    }

    /** The handles of one process, by their numbers; place 0 is never used. */
    private static final class Handles {
        final Node[] nodes = new Node[HANDLES + 1];
        final int[] strong = new int[HANDLES + 1];
        final int[] weak = new int[HANDLES + 1];
        int inUse;

        boolean has(int number) {
            return number >= 1 && number <= HANDLES && nodes[number] != null;
        }

        Node strongNode(int number) {
            return has(number) && strong[number] > 0 ? nodes[number] : null;
        }

        int numberOf(Node node) {
            for (int number = 1; number <= HANDLES; number++) {
                if (nodes[number] == node) {
                    return number;
                }
            }
            return NONE;
        }

        int leastFree() {
            return numberOf(null);
        }

        /** The number of the handle that stands for the node, made if there is none. */
        int giveStrong(Node node) {
            int number = numberOf(node);
            if (number == NONE) {
                number = leastFree();
                if (number == NONE) {
                    return NONE;
                }
                nodes[number] = node;
                inUse++;
            }
            strong[number]++;
            return number;
        }

        void loseStrong(Node node) {
            if (node != null) {
                takeFrom(numberOf(node), true);
            }
        }

        boolean addTo(int number, boolean strongly) {
            if (!has(number) || strongly && strong[number] == 0) {
                return false;
            }
            if (strongly) {
                strong[number]++;
            } else {
                weak[number]++;
            }
            return true;
        }

        boolean takeFrom(int number, boolean strongly) {
            if (!has(number)) {
                return false;
            }
            int[] counts = strongly ? strong : weak;
            if (counts[number] == 0) {
                return false;
            }
            counts[number]--;
            if (strong[number] == 0 && weak[number] == 0) {
                nodes[number] = null;
                inUse--;
            }
            return true;
        }

        void empty() {
            for (int number = 1; number <= HANDLES; number++) {
                nodes[number] = null;
                strong[number] = 0;
                weak[number] = 0;
            }
            inUse = 0;
        }
    }

    /** The cells of one process, with the messages by the cell in which they begin. */
    private static final class Area {
        final Message[] begins = new Message[AREA_CELLS];
        int used;
        int usedOneWay;

        /** Where the smallest gap that is large enough begins, the first of equal ones; else NONE. */
        int bestGap(int cells) {
            int best = NONE;
            int bestLength = AREA_CELLS + 1;
            int gap = 0;
            for (int cell = 0; cell <= AREA_CELLS; cell++) {
                boolean atEnd = cell == AREA_CELLS;
                if (!atEnd && begins[cell] == null) {
                    continue;
                }
                int length = cell - gap;
                if (length >= cells && length < bestLength) {
                    best = gap;
                    bestLength = length;
                }
                if (!atEnd) {
                    gap = cell + begins[cell].cells;
                }
            }
            return best;
        }

        void put(Message message) {
            int at = bestGap(message.cells);
            if (at == NONE) {
                return;
            }
            message.at = at;
            begins[at] = message;
            used += message.cells;
            if (message.kind == ONE_WAY) {
                usedOneWay += message.cells;
            }
        }

        Message takenAt(int at) {
            if (at < 0 || at >= AREA_CELLS || begins[at] == null || !begins[at].taken) {
                return null;
            }
            return begins[at];
        }

        void remove(Message message) {
            begins[message.at] = null;
            used -= message.cells;
            if (message.kind == ONE_WAY) {
                usedOneWay -= message.cells;
            }
        }

        void empty() {
            for (int cell = 0; cell < AREA_CELLS; cell++) {
                begins[cell] = null;
            }
            used = 0;
            usedOneWay = 0;
        }
    }

    private static final class Proc {
        final int number;
        final Node[] nodes = new Node[KEYS];
        final Handles handles = new Handles();
        final Area area = new Area();
        final Draft draft = new Draft();
        final ArrayList<Work> inbox = new ArrayList<>();
        final ArrayList<Message> open = new ArrayList<>();
        final ArrayList<Watch> watches = new ArrayList<>();
        boolean alive;
        /** Tells one life of the process from another, as callers of an earlier life are dead. */
        int life;
        boolean waits;
        Work latest;

        Proc(int number) {
            this.number = number;
        }

        Node nodeAt(int key) {
            return key < 0 || key >= KEYS ? null : nodes[key];
        }

        boolean owns(Node node) {
            return node.owner == number && !node.dead;
        }

        void endNodes() {
            for (int key = 0; key < KEYS; key++) {
                if (nodes[key] != null) {
                    nodes[key].end();
                    nodes[key] = null;
                }
            }
        }

        /** Whether a call of that process lies in the inbox or is open. */
        boolean hasCallOf(Proc caller) {
            for (int i = 0; i < inbox.size(); i++) {
                Work work = inbox.get(i);
                if (work.kind == CALL && work.message != null && work.message.isFrom(caller)) {
                    return true;
                }
            }
            for (int i = 0; i < open.size(); i++) {
                if (open.get(i).isFrom(caller)) {
                    return true;
                }
            }
            return false;
        }

        boolean hasRoomFor(Draft sent, int kind) {
            int cells = sent.cells();
            if (area.bestGap(cells) == NONE) {
                return false;
            }
            if (kind == ONE_WAY && area.usedOneWay + cells > ONE_WAY_CELLS) {
                return false;
            }
            return handles.inUse + countNewHandles(sent) <= HANDLES;
        }

        int countNewHandles(Draft sent) {
            int fresh = 0;
            for (int k = 0; k < sent.items; k++) {
                Node node = sent.nodes[k];
                if (node != null && !owns(node) && handles.numberOf(node) == NONE && !sent.hasNodeBefore(k)) {
                    fresh++;
                }
            }
            return fresh;
        }

        /** The items as this process sees them. */
        void receiveItems(Draft sent, Message message) {
            for (int k = 0; k < message.items; k++) {
                Node node = sent.nodes[k];
                if (node == null) {
                    message.setItem(k, NUMBER, sent.values[k]);
                } else if (owns(node)) {
                    message.setItem(k, OWN, node.key);
                } else {
                    message.setItem(k, HANDLE, handles.giveStrong(node));
                    message.held[k] = node;
                }
            }
        }

        void deliver(Message message) {
            if (message.kind == ONE_WAY && message.node != null) {
                message.node.busy = true;
            }
            inbox.add(new Work(message.kind, message, 0));
        }

        void startNextOneWay(Node node) {
            if (node == null) {
                return;
            }
            node.busy = false;
            Message next = node.unqueue();
            if (next != null) {
                deliver(next);
            }
        }

        void accept(Work work) {
            latest = work;
            if (work.message != null) {
                work.message.taken = true;
                if (work.kind == CALL) {
                    open.add(work.message);
                }
            }
            if (work.kind == REPLY || work.kind == FAILED) {
                waits = false;
            }
        }

        boolean hasRoomForWatch() {
            return watches.size() < WATCHES && inbox.size() + watches.size() < WORKS_AND_WATCHES;
        }

        void watchNode(Node node, int cookie) {
            if (node.dead) {
                inbox.add(new Work(DEATH, null, cookie));
            } else {
                watches.add(new Watch(node, cookie));
            }
        }

        void endWatchesOfTheDead() {
            int next = 0;
            for (int left = watches.size(); left > 0 && next < watches.size(); left--) {
                Watch watch = watches.get(next);
                if (watch.node.dead) {
                    watches.remove(next);
                    inbox.add(new Work(DEATH, null, watch.cookie));
                } else {
                    next++;
                }
            }
        }

        /** All that it had besides its nodes is no more; what it has sent lies on with others. */
        void empty() {
            handles.empty();
            area.empty();
            draft.begin(0);
            inbox.clear();
            open.clear();
            watches.clear();
            waits = false;
            latest = null;
        }
    }
}
