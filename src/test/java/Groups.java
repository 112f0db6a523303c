/** Groups of nodes that several tests begin with. */
final class Groups {
    private Groups() {
    }

    /** All n nodes, each started by node 0. */
    static GossipNodes startedBy0(int n) {
        GossipNodes x = new GossipNodes(n);
        for (int i = 0; i < n; i++) {
            x.start(i, 0);
        }
        return x;
    }
}
