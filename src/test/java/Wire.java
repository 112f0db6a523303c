/** Finds and loses messages that are on their way, by their kind, sender and receiver. */
final class Wire {
    static final int ANY = -1;

    static final int PING = 1;
    static final int ACK = 2;
    static final int ASK = 3;
    static final int NACK = 4;
    static final int GOSSIP = 5;
    static final int SYNC = 6;
    static final int SYNCED = 7;

    private Wire() {
    }

    /** The place of the first such message, or -1. */
    static int place(GossipNodes x, int kind, int sender, int receiver) {
        for (int k = 0; k < x.flight(); k++) {
            if (isSuch(x, k, kind, sender, receiver)) {
                return k;
            }
        }
        return -1;
    }

    static int count(GossipNodes x, int kind, int sender, int receiver) {
        int found = 0;
        for (int k = 0; k < x.flight(); k++) {
            if (isSuch(x, k, kind, sender, receiver)) {
                found++;
            }
        }
        return found;
    }

    /** Loses all such messages behind the first ones that are to stay. */
    static void loseBehind(GossipNodes x, int stay, int kind, int sender, int receiver) {
        int seen = count(x, kind, sender, receiver);
        for (int k = x.flight() - 1; k >= 0 && seen > stay; k--) {
            if (isSuch(x, k, kind, sender, receiver)) {
                x.drop(k);
                seen--;
            }
        }
    }

    static void lose(GossipNodes x, int kind, int sender, int receiver) {
        loseBehind(x, 0, kind, sender, receiver);
    }

    static void cutFromAll(GossipNodes x, int node, int n, boolean is) {
        for (int m = 0; m < n; m++) {
            x.cut(node, m, is);
        }
    }

    private static boolean isSuch(GossipNodes x, int k, int kind, int sender, int receiver) {
        return (kind == ANY || x.message(k, 0) == kind)
                && (sender == ANY || x.message(k, 1) == sender)
                && (receiver == ANY || x.message(k, 2) == receiver);
    }
}
