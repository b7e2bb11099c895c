/**
 * A small map that is kept by replicas without a leader. Every call plays one step of the replicas or of the
 * messages between them, so that a caller can try any order of arrivals, losses and crashes.
 */
public final class LeaderlessMap {
    private static final int KEYS = 4;
    private static final int OWNED_EACH = 6;
    private static final int ROOM_UNDER_WAY = 40;

    private static final int GET = 0;
    private static final int PUT = 1;
    private static final int NOTHING = 2;

    private static final int UNKNOWN = 0;
    private static final int PREACCEPTED = 1;
    private static final int ACCEPTED = 2;
    private static final int COMMITTED = 3;
    private static final int EXECUTED = 4;

    private static final int PREPARING = 0;
    private static final int PREACCEPTING = 1;
    private static final int ACCEPTING = 2;

    private static final int PREACCEPT = 0;
    private static final int PREACCEPTOK = 1;
    private static final int ACCEPT = 2;
    private static final int ACCEPTOK = 3;
    private static final int COMMIT = 4;
    private static final int PREPARE = 5;
    private static final int PROMISE = 6;

    private final int size;
    private final int faults;
    private final Network network;
    private final Replica[] replicas;
    private int crashes;

    public LeaderlessMap(int n) {
        size = n < 4 ? 3 : 5;
        faults = size / 2;
        network = new Network();
        replicas = new Replica[size];
        for (int r = 0; r < size; r++) {
            replicas[r] = new Replica(r, size, network);
        }
    }

    public int propose(int r, int key, boolean put, int v) {
        Replica replica = workingReplica(r);
        if (replica == null || !isKey(key)) {
            return -1;
        }
        int instance = replica.freeInstance();
        if (instance >= 0) {
            replica.startCommand(instance, new Command(put ? PUT : GET, key, v));
        }
        return instance;
    }

    public int prepare(int r, int i) {
        Replica replica = workingReplica(r);
        Entry entry = entryAt(r, i);
        if (replica == null || entry == null || entry.isSettled()) {
            return -1;
        }
        return replica.startPreparing(i);
    }

    public int deliver(int k) {
        Message taken = network.take(k);
        if (taken == null) {
            return -1;
        }
        replicas[taken.receiver].receive(taken);
        return taken.kind;
    }

    public boolean lose(int k) {
        return network.take(k) != null;
    }

    public boolean crash(int r) {
        Replica replica = workingReplica(r);
        if (replica == null || crashes >= faults) {
            return false;
        }
        replica.crashed = true;
        crashes++;
        return true;
    }

    public int execute(int r) {
        Replica replica = workingReplica(r);
        return replica == null ? -1 : replica.store.runReady(replica.entries);
    }

    public int waiting() {
        return network.underWay;
    }

    public int message(int k) {
        Message found = network.at(k);
        if (found == null) {
            return -1;
        }
        return found.kind + 8 * found.sender + 64 * found.receiver + 512 * found.instance;
    }

    public int lost() {
        return network.dropped;
    }

    public int state(int r, int i) {
        Entry entry = entryAt(r, i);
        return entry == null ? -1 : entry.state;
    }

    public int command(int r, int i) {
        Order order = orderAt(r, i);
        return order == null ? -1 : order.command.code();
    }

    public int seq(int r, int i) {
        Order order = orderAt(r, i);
        return order == null ? -1 : order.seq;
    }

    public int deps(int r, int i) {
        Order order = orderAt(r, i);
        return order == null ? -1 : order.deps;
    }

    public int promised(int r, int i) {
        Entry entry = entryAt(r, i);
        return entry == null ? -1 : entry.promised;
    }

    public int result(int r, int i) {
        Entry entry = entryAt(r, i);
        return entry == null || entry.state != EXECUTED ? 0 : entry.result;
    }

    public int place(int r, int i) {
        Entry entry = entryAt(r, i);
        return entry == null || entry.state != EXECUTED ? -1 : entry.place;
    }

    public int value(int r, int key) {
        return isReplica(r) && isKey(key) ? replicas[r].store.values[key] : 0;
    }

    private boolean isReplica(int r) {
        return r >= 0 && r < size;
    }

    private boolean isKey(int key) {
        return key >= 0 && key < KEYS;
    }

    private Replica workingReplica(int r) {
        return isReplica(r) && !replicas[r].crashed ? replicas[r] : null;
    }

    private Entry entryAt(int r, int i) {
        boolean known = isReplica(r) && i >= 0 && i < OWNED_EACH * size;
        return known ? replicas[r].entries[i] : null;
    }

    private Order orderAt(int r, int i) {
        Entry entry = entryAt(r, i);
        return entry == null ? null : entry.order;
    }

    private static final class Command {
        final int kind;
        final int key;
        final int newValue;

        Command(int kind, int key, int newValue) {
            this.kind = kind;
            this.key = key;
            this.newValue = newValue;
        }

        boolean interferesWith(Command other) {
            if (kind == NOTHING || other.kind == NOTHING) {
                return true;
            }
            return key == other.key && (kind == PUT || other.kind == PUT);
        }

        int code() {
            if (kind == NOTHING) {
                return 2 * KEYS;
            }
            return kind == PUT ? KEYS + key : key;
        }
    }

    /** A command with its seq and deps. It never changes, so entries and messages can share it. */
    private static final class Order {
        final Command command;
        final int seq;
        final int deps;

        Order(Command command, int seq, int deps) {
            this.command = command;
            this.seq = seq;
            this.deps = deps;
        }

        boolean agreesWith(Order other) {
            return seq == other.seq && deps == other.deps;
        }
    }

    private static final class Entry {
        int state;
        /** Null exactly while the state is UNKNOWN. */
        Order order;
        int promised;
        int voted;
        int result;
        int place;

        boolean isSettled() {
            return state == COMMITTED || state == EXECUTED;
        }

        void become(int newState, Order newOrder) {
            state = newState;
            order = newOrder;
        }

        void vote(int newState, Order newOrder, int ballot) {
            promised = ballot;
            voted = ballot;
            become(newState, newOrder);
        }
    }

    /** What a replica's entry was when it promised: the entry itself may change before this is read. */
    private static final class Report {
        final int sender;
        final int state;
        final Order order;
        final int voted;

        Report(int sender, Entry entry) {
            this.sender = sender;
            this.state = entry.state;
            this.order = entry.order;
            this.voted = entry.voted;
        }

        /** Only such an entry can have taken part in a fast commit that nobody else saw. */
        boolean isFastVote(int owner) {
            return state == PREACCEPTED && voted == 0 && sender != owner;
        }
    }

    private static final class Attempt {
        final int ballot;
        final boolean fast;
        final Report[] reports;
        int phase;
        int replies;
        boolean agreed;
        int greatestSeq;
        int allDeps;

        Attempt(int ballot, int phase, boolean fast, int roomForReports) {
            this.ballot = ballot;
            this.phase = phase;
            this.fast = fast;
            this.reports = new Report[roomForReports];
        }

        void enterPhase(int newPhase) {
            phase = newPhase;
            replies = 0;
        }

        void countOrder(Order reply) {
            // While all agree, the greatest seq and all the deps are those of each single reply.
            agreed = replies == 0 || (agreed && reply.seq == greatestSeq && reply.deps == allDeps);
            greatestSeq = replies == 0 ? reply.seq : Math.max(greatestSeq, reply.seq);
            allDeps = replies == 0 ? reply.deps : allDeps | reply.deps;
            replies++;
        }

        void countReport(Report report) {
            if (replies < reports.length) {
                reports[replies] = report;
                replies++;
            }
        }

        Report lastAccepted() {
            Report last = null;
            for (int a = 0; a < replies; a++) {
                Report report = reports[a];
                if (report.state == ACCEPTED && (last == null || report.voted > last.voted)) {
                    last = report;
                }
            }
            return last;
        }

        Report firstPreaccepted() {
            for (int a = 0; a < replies; a++) {
                if (reports[a].state == PREACCEPTED) {
                    return reports[a];
                }
            }
            return null;
        }

        /** A fast vote that, with those that agree with it, makes at least so many; null if there is none. */
        Report sharedFastVote(int owner, int needed) {
            for (int a = 0; a < replies; a++) {
                if (reports[a].isFastVote(owner) && countSharers(reports[a].order, owner) >= needed) {
                    return reports[a];
                }
            }
            return null;
        }

        private int countSharers(Order order, int owner) {
            int sharers = 0;
            for (int a = 0; a < replies; a++) {
                if (reports[a].isFastVote(owner) && reports[a].order.agreesWith(order)) {
                    sharers++;
                }
            }
            return sharers;
        }
    }

    /** It never changes; what a kind does not carry is 0 or null. */
    private static final class Message {
        final int kind;
        final int sender;
        final int receiver;
        final int instance;
        final int ballot;
        final Order order;
        final Report report;

        Message(int kind, int sender, int receiver, int instance, int ballot, Order order, Report report) {
            this.kind = kind;
            this.sender = sender;
            this.receiver = receiver;
            this.instance = instance;
            this.ballot = ballot;
            this.order = order;
            this.report = report;
        }

        boolean asksForVote() {
            return kind == PREACCEPT || kind == ACCEPT || kind == PREPARE;
        }
    }

    private static final class Network {
        final Message[] line = new Message[ROOM_UNDER_WAY];
        int underWay;
        int dropped;

        void send(Message sent) {
            if (underWay >= ROOM_UNDER_WAY) {
                dropped++;
                return;
            }
            line[underWay] = sent;
            underWay++;
        }

        Message at(int k) {
            return k >= 0 && k < underWay ? line[k] : null;
        }

        Message take(int k) {
            Message taken = at(k);
            if (taken == null) {
                return null;
            }
            underWay--;
            for (int j = k; j < underWay; j++) {
                line[j] = line[j + 1];
            }
            line[underWay] = null;
            return taken;
        }
    }

    /** A replica's map, and the executing of its committed entries on it. */
    private static final class Store {
        final int[] values = new int[KEYS];
        final int[] reach;
        int executedSet;
        int executedCount;

        Store(int instances) {
            reach = new int[instances];
        }

        int runReady(Entry[] entries) {
            int before = executedCount;
            // Once is enough: a component is executed whole, so those that stay keep their members.
            findReach(entries);
            for (int round = 0; round < entries.length; round++) {
                int component = leastReadyComponent(entries);
                if (component == 0) {
                    break;
                }
                runComponent(entries, component);
            }
            return executedCount - before;
        }

        /** Sets for each instance all that steps from COMMITTED instances to their deps come to. */
        private void findReach(Entry[] entries) {
            for (int i = 0; i < entries.length; i++) {
                reach[i] = entries[i].state == COMMITTED ? entries[i].order.deps : 0;
            }
            for (int between = 0; between < entries.length; between++) {
                for (int i = 0; i < entries.length; i++) {
                    if (contains(reach[i], between)) {
                        reach[i] |= reach[between];
                    }
                }
            }
        }

        private int leastReadyComponent(Entry[] entries) {
            for (int i = 0; i < entries.length; i++) {
                int component = entries[i].state == COMMITTED ? readyComponent(i) : 0;
                if (component != 0) {
                    return component;
                }
            }
            return 0;
        }

        /**
         * The component of a COMMITTED instance, or 0 if it has to wait. It is ready just if all that it reaches
         * and that is not EXECUTED reaches it too: then nothing open is left outside the component, and nothing in
         * it is less than COMMITTED, since that reaches nothing.
         */
        private int readyComponent(int i) {
            int open = (reach[i] | 1 << i) & ~executedSet;
            for (int j = 0; j < reach.length; j++) {
                boolean mutual = j == i || contains(reach[j], i);
                if (contains(open, j) && !mutual) {
                    return 0;
                }
            }
            return open;
        }

        private void runComponent(Entry[] entries, int component) {
            int left = component;
            for (int step = 0; step < entries.length && left != 0; step++) {
                int next = leastSeq(entries, left);
                runEntry(entries[next]);
                executedSet |= 1 << next;
                left &= ~(1 << next);
            }
        }

        private int leastSeq(Entry[] entries, int set) {
            int least = 0;
            boolean found = false;
            for (int i = 0; i < entries.length; i++) {
                if (contains(set, i) && (!found || entries[i].order.seq < entries[least].order.seq)) {
                    least = i;
                    found = true;
                }
            }
            return least;
        }

        private void runEntry(Entry entry) {
            Command command = entry.order.command;
            entry.result = command.kind == NOTHING ? 0 : values[command.key];
            if (command.kind == PUT) {
                values[command.key] = command.newValue;
            }
            entry.state = EXECUTED;
            entry.place = executedCount;
            executedCount++;
        }

        private static boolean contains(int set, int i) {
            return (set >> i & 1) != 0;
        }
    }

    private static final class Replica {
        final int number;
        final int size;
        final int faults;
        final Network network;
        final Entry[] entries;
        final Attempt[] attempts;
        final Store store;
        boolean crashed;

        Replica(int number, int size, Network network) {
            this.number = number;
            this.size = size;
            this.faults = size / 2;
            this.network = network;
            entries = new Entry[OWNED_EACH * size];
            for (int i = 0; i < entries.length; i++) {
                entries[i] = new Entry();
            }
            attempts = new Attempt[entries.length];
            store = new Store(entries.length);
        }

        /** The least own instance that nobody has begun or prepared here, or -1. */
        int freeInstance() {
            int first = OWNED_EACH * number;
            for (int i = first; i < first + OWNED_EACH; i++) {
                if (entries[i].state == UNKNOWN && entries[i].promised == 0) {
                    return i;
                }
            }
            return -1;
        }

        void startCommand(int instance, Command command) {
            Order order = fitted(instance, new Order(command, 1, 0));
            entries[instance].become(PREACCEPTED, order);
            attempts[instance] = new Attempt(0, PREACCEPTING, true, 0);
            for (int step = 1; step <= size - 2; step++) {
                int receiver = (number + step) % size;
                network.send(new Message(PREACCEPT, number, receiver, instance, 0, order, null));
            }
        }

        int startPreparing(int instance) {
            int ballot = nextBallot(entries[instance].promised);
            entries[instance].promised = ballot;
            attempts[instance] = new Attempt(ballot, PREPARING, false, faults + 1);
            sendToOthers(PREPARE, instance, ballot, null);
            return ballot;
        }

        void receive(Message got) {
            if (crashed) {
                return;
            }
            Entry entry = entries[got.instance];
            if (got.asksForVote() && entry.isSettled()) {
                sendBack(got, COMMIT, entry.order, null);
                return;
            }
            switch (got.kind) {
                case PREACCEPT:
                    onPreaccept(got, entry);
                    break;
                case PREACCEPTOK:
                    onPreacceptOk(got);
                    break;
                case ACCEPT:
                    onAccept(got, entry);
                    break;
                case ACCEPTOK:
                    onAcceptOk(got);
                    break;
                case COMMIT:
                    onCommit(got, entry);
                    break;
                case PREPARE:
                    onPrepare(got, entry);
                    break;
                case PROMISE:
                    onPromise(got, entry);
                    break;
                default:
                    break;
            }
        }

        private void onPreaccept(Message got, Entry entry) {
            // A PREACCEPT that comes after the ACCEPT of its own ballot must not undo that vote.
            boolean overtaken = entry.state == ACCEPTED && entry.voted == got.ballot;
            if (got.ballot < entry.promised || overtaken) {
                return;
            }
            entry.vote(PREACCEPTED, fitted(got.instance, got.order), got.ballot);
            sendBack(got, PREACCEPTOK, entry.order, null);
        }

        private void onPreacceptOk(Message got) {
            Attempt attempt = liveAttempt(got, PREACCEPTING);
            if (attempt == null) {
                return;
            }
            attempt.countOrder(got.order);
            Command command = entries[got.instance].order.command;
            Order merged = new Order(command, attempt.greatestSeq, attempt.allDeps);
            boolean mayBeFast = attempt.fast && attempt.agreed;
            if (mayBeFast && attempt.replies == size - 2) {
                commitHere(got.instance, merged);
            } else if (!mayBeFast && attempt.replies >= faults) {
                beginAccepting(got.instance, attempt, merged);
            }
        }

        private void onAccept(Message got, Entry entry) {
            if (got.ballot < entry.promised) {
                return;
            }
            entry.vote(ACCEPTED, got.order, got.ballot);
            sendBack(got, ACCEPTOK, null, null);
        }

        private void onAcceptOk(Message got) {
            Attempt attempt = liveAttempt(got, ACCEPTING);
            if (attempt == null) {
                return;
            }
            attempt.replies++;
            if (attempt.replies == faults) {
                commitHere(got.instance, entries[got.instance].order);
            }
        }

        private void onCommit(Message got, Entry entry) {
            if (!entry.isSettled()) {
                entry.become(COMMITTED, got.order);
            }
        }

        private void onPrepare(Message got, Entry entry) {
            if (got.ballot <= entry.promised) {
                return;
            }
            entry.promised = got.ballot;
            sendBack(got, PROMISE, null, new Report(number, entry));
        }

        private void onPromise(Message got, Entry entry) {
            Attempt attempt = liveAttempt(got, PREPARING);
            if (attempt == null) {
                return;
            }
            attempt.countReport(got.report);
            if (attempt.replies == faults) {
                attempt.countReport(new Report(number, entry));
                finishOpen(got.instance, attempt);
            }
        }

        /** Goes on with what the reports leave possible, so that nothing committed elsewhere is contradicted. */
        private void finishOpen(int instance, Attempt attempt) {
            Report accepted = attempt.lastAccepted();
            Report shared = attempt.sharedFastVote(instance / OWNED_EACH, faults);
            Report preaccepted = attempt.firstPreaccepted();
            if (accepted != null) {
                beginAccepting(instance, attempt, accepted.order);
            } else if (shared != null) {
                beginAccepting(instance, attempt, shared.order);
            } else if (preaccepted != null) {
                preacceptAgain(instance, attempt, preaccepted.order.command);
            } else {
                beginAccepting(instance, attempt, new Order(new Command(NOTHING, 0, 0), 0, 0));
            }
        }

        private void preacceptAgain(int instance, Attempt attempt, Command command) {
            Order order = fitted(instance, new Order(command, 1, 0));
            entries[instance].vote(PREACCEPTED, order, attempt.ballot);
            attempt.enterPhase(PREACCEPTING);
            sendToOthers(PREACCEPT, instance, attempt.ballot, order);
        }

        private void beginAccepting(int instance, Attempt attempt, Order order) {
            entries[instance].vote(ACCEPTED, order, attempt.ballot);
            attempt.enterPhase(ACCEPTING);
            sendToOthers(ACCEPT, instance, attempt.ballot, order);
        }

        private void commitHere(int instance, Order order) {
            entries[instance].become(COMMITTED, order);
            sendToOthers(COMMIT, instance, 0, order);
        }

        /** The attempt that a reply is for, or null if the reply does not count. */
        private Attempt liveAttempt(Message reply, int phase) {
            Attempt attempt = attempts[reply.instance];
            Entry entry = entries[reply.instance];
            if (attempt == null || attempt.phase != phase || attempt.ballot != reply.ballot) {
                return null;
            }
            return attempt.ballot == entry.promised && !entry.isSettled() ? attempt : null;
        }

        private Order fitted(int instance, Order asked) {
            int seq = asked.seq;
            int deps = asked.deps;
            for (int i = 0; i < entries.length; i++) {
                Order other = entries[i].order;
                if (i != instance && other != null && other.command.interferesWith(asked.command)) {
                    seq = Math.max(seq, other.seq + 1);
                    deps |= 1 << i;
                }
            }
            return new Order(asked.command, seq, deps);
        }

        private int nextBallot(int above) {
            int ballot = above - above % size + number;
            return ballot > above ? ballot : ballot + size;
        }

        private void sendBack(Message got, int kind, Order order, Report report) {
            network.send(new Message(kind, number, got.sender, got.instance, got.ballot, order, report));
        }

        private void sendToOthers(int kind, int instance, int ballot, Order order) {
            for (int receiver = 0; receiver < size; receiver++) {
                if (receiver != number) {
                    network.send(new Message(kind, number, receiver, instance, ballot, order, null));
                }
            }
        }
    }
}
