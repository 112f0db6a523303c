/** Nodes that probe one another, suspect before they declare dead, and gossip what they learn. */
public final class GossipNodes {
    private static final int FEWEST_NODES = 2;
    private static final int MOST_NODES = 8;
    private static final int MOST_TICKS = 100;

    private static final int MISSING = 0;
    private static final int ALIVE = 1;
    private static final int SUSPECT = 2;
    private static final int DEAD = 3;

    private static final int PING = 1;
    private static final int ACK = 2;
    private static final int ASK = 3;
    private static final int NACK = 4;
    private static final int GOSSIP = 5;
    private static final int SYNC = 6;
    private static final int SYNCED = 7;

    private static final int NOBODY = -1;

    private final int count;
    private final Node[] nodes;
    /** For each node a mask of those that it is cut from. */
    private final int[] cutFrom;
    private final Flight onTheWay;
    private int time;

    public GossipNodes(int n) {
        count = Math.min(MOST_NODES, Math.max(FEWEST_NODES, n));
        onTheWay = new Flight();
        cutFrom = new int[count];
        nodes = new Node[count];
        for (int i = 0; i < count; i++) {
            nodes[i] = new Node(i, count, onTheWay);
        }
        time = 0;
    }

    public boolean start(int node, int by) {
        if (!isNode(node) || !isNode(by) || nodes[node].runs) {
            return false;
        }
        nodes[node].begin(time);
        if (by != node) {
            nodes[node].send(SYNC, by, 0, 0, 0);
        }
        return true;
    }

    public boolean crash(int node) {
        if (!isRunning(node)) {
            return false;
        }
        nodes[node].runs = false;
        return true;
    }

    public boolean leave(int node) {
        if (!isRunning(node)) {
            return false;
        }
        nodes[node].sayFarewell(time);
        nodes[node].runs = false;
        return true;
    }

    public boolean cut(int a, int b, boolean is) {
        if (!isNode(a) || !isNode(b) || a == b || areCut(a, b) == is) {
            return false;
        }
        cutFrom[a] ^= 1 << b;
        cutFrom[b] ^= 1 << a;
        return true;
    }

    public boolean drop(int k) {
        return onTheWay.lose(k);
    }

    public boolean swap(int k) {
        return onTheWay.overtake(k);
    }

    public int ticks(int n) {
        if (n < 0 || n > MOST_TICKS) {
            return -1;
        }
        int came = 0;
        for (int t = 0; t < n; t++) {
            time++;
            came += deliverAll();
            for (int i = 0; i < count; i++) {
                if (nodes[i].runs) {
                    nodes[i].timer(time);
                }
            }
        }
        return came;
    }

    public int now() {
        return time;
    }

    public int flight() {
        return onTheWay.size;
    }

    public int message(int k, int what) {
        if (k < 0 || k >= onTheWay.size) {
            return 0;
        }
        return onTheWay.waiting[k].tell(what);
    }

    public int view(int node, int member, int what) {
        if (!isRunning(node)) {
            return -1;
        }
        return isNode(member) ? nodes[node].table[member].tell(what) : 0;
    }

    public int node(int node, int what) {
        if (!isNode(node) || what < 0 || what > 9) {
            return -1;
        }
        return nodes[node].runs ? nodes[node].tell(what) : 0;
    }

    public int queued(int node, int member) {
        return isRunning(node) && isNode(member) ? nodes[node].table[member].sendings : 0;
    }

    public boolean agreed() {
        for (int i = 0; i < count; i++) {
            if (nodes[i].runs && !seesJustTheRunning(nodes[i])) {
                return false;
            }
        }
        return true;
    }

    private boolean isNode(int node) {
        return node >= 0 && node < count;
    }

    private boolean isRunning(int node) {
        return isNode(node) && nodes[node].runs;
    }

    private boolean areCut(int a, int b) {
        return (cutFrom[a] >> b & 1) == 1;
    }

    /** How many messages reached a running node. */
    private int deliverAll() {
        int due = onTheWay.land();
        int came = 0;
        for (int i = 0; i < due; i++) {
            Message message = onTheWay.landed[i];
            Node receiver = nodes[message.receiver];
            if (receiver.runs && !areCut(message.sender, message.receiver)) {
                came++;
                receiver.receive(message, time);
            }
        }
        return came;
    }

    private boolean seesJustTheRunning(Node observer) {
        for (int m = 0; m < count; m++) {
            Entry entry = observer.table[m];
            if (nodes[m].runs) {
                // What a node says of itself stands for all, as it is one of those compared.
                if (entry.state != ALIVE || entry.incarnation != nodes[m].table[m].incarnation) {
                    return false;
                }
            } else if (entry.state != MISSING && entry.state != DEAD) {
                return false;
            }
        }
        return true;
    }

    /**
     * What a node holds of a member, with its place in the queue of news: each change of an
     * entry is announced, so the news that is queued always is the entry itself.
     */
    private static final class Entry {
        private static final int SENDINGS = 4;

        int state;
        int incarnation;
        int since;
        /** A mask of the nodes that confirmed a suspicion; empty when there is none. */
        int confirmers;
        /** How often the news is still to be sent; 0 when it is not in the queue. */
        int sendings;

        void forget() {
            state = MISSING;
            incarnation = 0;
            since = 0;
            confirmers = 0;
            sendings = 0;
        }

        void become(int newState, int newIncarnation, int now) {
            state = newState;
            incarnation = newIncarnation;
            since = now;
            confirmers = 0;
            announce();
        }

        void becomeSuspect(int newIncarnation, int now, int accuser) {
            become(SUSPECT, newIncarnation, now);
            confirmers = 1 << accuser;
        }

        void announce() {
            sendings = SENDINGS;
        }

        boolean isBelow(int otherState, int otherIncarnation) {
            if (state == MISSING || otherIncarnation > incarnation) {
                return true;
            }
            return otherIncarnation == incarnation && otherState > state;
        }

        boolean isSameSuspicion(int otherState, int otherIncarnation) {
            return state == SUSPECT && otherState == SUSPECT && otherIncarnation == incarnation;
        }

        int tell(int what) {
            switch (what) {
                case 0: return state;
                case 1: return incarnation;
                case 2: return since;
                case 3: return Integer.bitCount(confirmers);
                default: return 0;
            }
        }
    }

    private static final class Message {
        private static final int NEWS_WIDTH = 3;
        private static final int FIRST_NEWS = 7;

        int kind;
        int sender;
        int receiver;
        int number;
        int origin;
        int target;
        int newsCount;
        /** Node, state and incarnation of each news in turn. */
        final int[] news = new int[NEWS_WIDTH * MOST_NODES];

        void address(int itsKind, int from, int to) {
            kind = itsKind;
            sender = from;
            receiver = to;
            newsCount = 0;
        }

        void concern(int itsNumber, int itsOrigin, int itsTarget) {
            number = itsNumber;
            origin = itsOrigin;
            target = itsTarget;
        }

        void carry(int member, Entry entry) {
            if (newsCount >= MOST_NODES) {
                return;
            }
            int at = NEWS_WIDTH * newsCount;
            news[at] = member;
            news[at + 1] = entry.state;
            news[at + 2] = entry.incarnation;
            newsCount++;
        }

        int tell(int what) {
            switch (what) {
                case 0: return kind;
                case 1: return sender;
                case 2: return receiver;
                case 3: return number;
                case 4: return origin;
                case 5: return target;
                case 6: return newsCount;
                default: return tellNews(what);
            }
        }

        private int tellNews(int what) {
            if (what < FIRST_NEWS || what >= FIRST_NEWS + NEWS_WIDTH * newsCount) {
                return 0;
            }
            return news[what - FIRST_NEWS];
        }
    }

    /** The messages on their way; all of them are made once and used again. */
    private static final class Flight {
        private static final int MOST = 60;

        Message[] waiting = new Message[MOST];
        Message[] landed = new Message[MOST];
        /** Takes what is sent when no place is left, so that its sender need not know. */
        private final Message lost = new Message();
        int size;

        Flight() {
            for (int i = 0; i < MOST; i++) {
                waiting[i] = new Message();
                landed[i] = new Message();
            }
            size = 0;
        }

        Message next() {
            if (size >= MOST) {
                return lost;
            }
            size++;
            return waiting[size - 1];
        }

        boolean lose(int k) {
            if (k < 0 || k >= size) {
                return false;
            }
            Message gone = waiting[k];
            for (int i = k; i < size - 1; i++) {
                waiting[i] = waiting[i + 1];
            }
            size--;
            waiting[size] = gone;
            return true;
        }

        boolean overtake(int k) {
            if (k < 0 || k >= size - 1) {
                return false;
            }
            Message first = waiting[k];
            waiting[k] = waiting[k + 1];
            waiting[k + 1] = first;
            return true;
        }

        /** How many have landed; what is sent from now on arrives in the next tick. */
        int land() {
            Message[] empty = landed;
            landed = waiting;
            waiting = empty;
            int due = size;
            size = 0;
            return due;
        }
    }

    /** A probe that a node makes for another one. */
    private static final class Relay {
        int number;
        int origin;
        int target;
        int age;

        boolean isFor(Message message) {
            return number == message.number && origin == message.origin && target == message.target;
        }
    }

    private static final class Node {
        private static final int MOST_SCORE = 4;
        private static final int MOST_NEWS = 3;
        private static final int MOST_RELAYS = 4;
        private static final int MOST_ASKED = 2;
        private static final int RELAY_END = 3;
        private static final int ASK_CLOCK = 3;
        private static final int END_CLOCK = 8;
        private static final int FIRST_REST = 2;
        private static final int IDLE_REST = 3;
        private static final int SYNC_EVERY = 20;
        private static final int LONGEST_SUSPICION = 24;
        private static final int CONFIRMED_SOONER = 6;
        private static final int MOST_CONFIRMED = 3;

        final int id;
        final int count;
        final Flight flight;
        final Entry[] table;
        final Relay[] relays = new Relay[MOST_RELAYS];
        boolean runs;
        int began;
        int score;
        int relayCount;
        int rest;
        int probeNumber;
        /** Whom the probe that goes on is for, or NOBODY. */
        int probed;
        int lastProbed;
        int clock;
        boolean answered;
        int asked;
        int nacks;
        int lastSynced;

        Node(int itsId, int nodeCount, Flight itsFlight) {
            id = itsId;
            count = nodeCount;
            flight = itsFlight;
            table = new Entry[nodeCount];
            for (int m = 0; m < nodeCount; m++) {
                table[m] = new Entry();
            }
            for (int r = 0; r < MOST_RELAYS; r++) {
                relays[r] = new Relay();
            }
        }

        void begin(int now) {
            for (int m = 0; m < count; m++) {
                table[m].forget();
            }
            table[id].become(ALIVE, 0, now);
            runs = true;
            began = now;
            score = 0;
            relayCount = 0;
            rest = FIRST_REST;
            probeNumber = 0;
            probed = NOBODY;
            lastProbed = id;
            clock = 0;
            answered = false;
            asked = 0;
            nacks = 0;
            lastSynced = id;
        }

        void sayFarewell(int now) {
            table[id].become(DEAD, table[id].incarnation, now);
            for (int m = 0; m < count; m++) {
                if (m != id && table[m].state == ALIVE) {
                    send(GOSSIP, m, 0, 0, 0);
                }
            }
        }

        void send(int kind, int to, int number, int origin, int target) {
            Message message = flight.next();
            message.address(kind, id, to);
            message.concern(number, origin, target);
            if (kind == SYNC || kind == SYNCED) {
                loadTable(message);
            } else {
                loadQueued(message);
            }
        }

        private void loadTable(Message message) {
            for (int m = 0; m < count; m++) {
                if (table[m].state != MISSING) {
                    message.carry(m, table[m]);
                }
            }
        }

        private void loadQueued(Message message) {
            int loaded = 0;
            for (int i = 0; i < MOST_NEWS; i++) {
                int m = mostToSend(loaded);
                if (m == NOBODY) {
                    return;
                }
                message.carry(m, table[m]);
                table[m].sendings--;
                loaded |= 1 << m;
            }
        }

        /** The member with the most sendings left, but for those in the mask. */
        private int mostToSend(int without) {
            int best = NOBODY;
            int most = 0;
            for (int m = 0; m < count; m++) {
                if ((without >> m & 1) == 0 && table[m].sendings > most) {
                    best = m;
                    most = table[m].sendings;
                }
            }
            return best;
        }

        void receive(Message message, int now) {
            for (int i = 0; i < message.newsCount; i++) {
                int at = Message.NEWS_WIDTH * i;
                learn(message.news[at], message.news[at + 1], message.news[at + 2], message.sender, now);
            }
            switch (message.kind) {
                case PING:
                    send(ACK, message.sender, message.number, message.origin, message.target);
                    break;
                case ACK:
                    takeAck(message);
                    break;
                case ASK:
                    takeAsk(message);
                    break;
                case NACK:
                    if (isOfProbe(message)) {
                        nacks++;
                    }
                    break;
                case SYNC:
                    send(SYNCED, message.sender, 0, 0, 0);
                    break;
                default:
                    break;
            }
        }

        private void learn(int member, int state, int incarnation, int sender, int now) {
            Entry entry = table[member];
            if (member == id) {
                if (state != ALIVE) {
                    refute(incarnation, now);
                }
            } else if (entry.isBelow(state, incarnation)) {
                if (state == SUSPECT) {
                    entry.becomeSuspect(incarnation, now, sender);
                } else {
                    entry.become(state, incarnation, now);
                }
            } else if (entry.isSameSuspicion(state, incarnation)) {
                entry.confirmers |= 1 << sender;
            }
        }

        private void refute(int incarnation, int now) {
            Entry own = table[id];
            if (incarnation >= own.incarnation) {
                own.become(ALIVE, incarnation + 1, now);
                raiseScore(1);
            }
            own.announce();
        }

        private void raiseScore(int by) {
            score = Math.min(MOST_SCORE, score + by);
        }

        private boolean isOfProbe(Message message) {
            return probed != NOBODY && message.number == probeNumber;
        }

        private void takeAck(Message ack) {
            if (ack.origin == id) {
                if (isOfProbe(ack)) {
                    answered = true;
                }
                return;
            }
            for (int r = 0; r < relayCount; r++) {
                if (relays[r].isFor(ack)) {
                    endRelay(r);
                    send(ACK, ack.origin, ack.number, ack.origin, ack.target);
                    return;
                }
            }
        }

        private void takeAsk(Message ask) {
            if (relayCount >= MOST_RELAYS) {
                return;
            }
            Relay relay = relays[relayCount];
            relayCount++;
            relay.number = ask.number;
            relay.origin = ask.origin;
            relay.target = ask.target;
            relay.age = 0;
            send(PING, ask.target, ask.number, ask.origin, ask.target);
        }

        /** The ended relay goes behind the others, to be used again. */
        private void endRelay(int r) {
            Relay ended = relays[r];
            for (int i = r; i < relayCount - 1; i++) {
                relays[i] = relays[i + 1];
            }
            relayCount--;
            relays[relayCount] = ended;
        }

        void timer(int now) {
            ageRelays();
            buryOverdue(now);
            if (probed == NOBODY) {
                restOrProbe();
            } else {
                goOnProbing(now);
            }
            if ((now - began) % SYNC_EVERY == 0) {
                syncWithNext();
            }
        }

        private void ageRelays() {
            int held = relayCount;
            int ended = 0;
            for (int i = 0; i < held; i++) {
                Relay relay = relays[i - ended];
                relay.age++;
                if (relay.age >= RELAY_END) {
                    endRelay(i - ended);
                    ended++;
                    send(NACK, relay.origin, relay.number, relay.origin, relay.target);
                }
            }
        }

        private void buryOverdue(int now) {
            for (int m = 0; m < count; m++) {
                Entry entry = table[m];
                if (m != id && entry.state == SUSPECT) {
                    int confirmed = Math.min(MOST_CONFIRMED, Integer.bitCount(entry.confirmers));
                    if (now - entry.since >= LONGEST_SUSPICION - CONFIRMED_SOONER * confirmed) {
                        entry.become(DEAD, entry.incarnation, now);
                    }
                }
            }
        }

        private void restOrProbe() {
            rest--;
            if (rest > 0) {
                return;
            }
            int next = nextBehind(lastProbed, SUSPECT);
            if (next == NOBODY) {
                rest = IDLE_REST;
                return;
            }
            probed = next;
            lastProbed = next;
            probeNumber++;
            clock = 0;
            answered = false;
            asked = 0;
            nacks = 0;
            send(PING, next, probeNumber, id, next);
        }

        /** The next other node in the round that is there, in a state up to the given one. */
        private int nextBehind(int last, int worstState) {
            for (int step = 1; step <= count; step++) {
                int m = (last + step) % count;
                if (m != id && table[m].state != MISSING && table[m].state <= worstState) {
                    return m;
                }
            }
            return NOBODY;
        }

        private void goOnProbing(int now) {
            clock++;
            if (clock == ASK_CLOCK && !answered) {
                askOthers();
            }
            if (clock >= END_CLOCK) {
                endProbe(now);
            }
        }

        private void askOthers() {
            for (int step = 1; step < count && asked < MOST_ASKED; step++) {
                int m = (probed + step) % count;
                if (m != id && table[m].state == ALIVE) {
                    send(ASK, m, probeNumber, id, probed);
                    asked++;
                }
            }
        }

        private void endProbe(int now) {
            if (answered) {
                score = Math.max(0, score - 1);
            } else {
                // A probe of the same number before a restart may have left more NACKs than were asked.
                raiseScore(asked == 0 ? 1 : Math.max(0, asked - nacks));
                Entry entry = table[probed];
                if (entry.state == ALIVE) {
                    entry.becomeSuspect(entry.incarnation, now, id);
                }
            }
            probed = NOBODY;
            clock = 0;
            answered = false;
            rest = 1 + score;
        }

        private void syncWithNext() {
            int next = nextBehind(lastSynced, ALIVE);
            if (next != NOBODY) {
                lastSynced = next;
                send(SYNC, next, 0, 0, 0);
            }
        }

        int tell(int what) {
            switch (what) {
                case 0: return runs ? 1 : 0;
                case 1: return table[id].incarnation;
                case 2: return score;
                case 3: return probed;
                case 4: return clock;
                case 5: return answered ? 1 : 0;
                case 6: return probeNumber;
                case 7: return rest;
                case 8: return countQueued();
                case 9: return relayCount;
                default: return 0;
            }
        }

        private int countQueued() {
            int queued = 0;
            for (int m = 0; m < count; m++) {
                if (table[m].sendings > 0) {
                    queued++;
                }
            }
            return queued;
        }
    }
}
