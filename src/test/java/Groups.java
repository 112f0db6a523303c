/** Groups of nodes that several tests begin with. */
final class Groups {
    private Groups() {
    }

    /** All n nodes, each started by node 0. */
    static GossipNodes startedBy0(int n) {
        GossipNodes x = new GossipNodes(n);
        for (int i = 0; i < n; i++) {
            x.start(i, 0);
        }
        return x;
    }

    /** Nodes 0 and 1 of n at tick 2: they know each other, and the PING of each is on its way. */
    static GossipNodes pairOf(int n) {
        GossipNodes x = new GossipNodes(n);
        x.start(0, 0);
        x.start(1, 0);
        x.ticks(2);
        return x;
    }

    /** A pair at tick 10: node 1 has crashed, and node 0 suspects it since then. */
    static GossipNodes suspectingPairOf(int n) {
        GossipNodes x = pairOf(n);
        x.crash(1);
        x.ticks(8);
        return x;
    }

    /** Node 0 of three runs, 59 messages are on their way to it, sent by node 1, which has crashed. */
    static GossipNodes fiftyNineOnTheirWay() {
        GossipNodes x = new GossipNodes(3);
        x.start(0, 0);
        sendBy(x, 1, 0, 59);
        return x;
    }

    /** A SYNC each time that a node starts, and crashes again. */
    static void sendBy(GossipNodes x, int node, int to, int times) {
        for (int i = 0; i < times; i++) {
            x.start(node, to);
            x.crash(node);
        }
    }

    /** Three nodes, 0 and 1 are cut: at tick 6 node 2 has a relay for the probe of 1 by 0. */
    static GossipNodes relayAtSix() {
        GossipNodes x = startedBy0(3);
        x.ticks(2);
        x.cut(0, 1, true);
        x.ticks(4);
        return x;
    }

    /** Eight nodes, 7 has crashed: all others probe it at once, and their ASKs are on their way. */
    static GossipNodes allAskForSeven() {
        GossipNodes x = startedBy0(8);
        x.ticks(60);
        x.crash(7);
        x.ticks(62);
        return x;
    }

    /** Loses all messages but the first ASKs to node 0; how many these are. */
    static int keepAsksToNodeZero(GossipNodes x, int stay) {
        int kept = 0;
        while (kept < x.flight()) {
            if (kept < stay && x.message(kept, 0) == Wire.ASK && x.message(kept, 2) == 0) {
                kept++;
            } else {
                x.drop(kept);
            }
        }
        return kept;
    }
}
