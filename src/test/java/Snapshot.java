/** All that a small group answers of itself, to see that a refused call has changed nothing. */
final class Snapshot {
    private Snapshot() {
    }

    /** Of the first n nodes; it takes about 150 of the object's 512 calls for three of them. */
    static String of(GossipNodes x, int n) {
        StringBuilder all = new StringBuilder();
        all.append(x.now()).append(' ').append(x.flight()).append(' ').append(x.agreed());
        for (int node = 0; node < n; node++) {
            all.append("\nnode ").append(node).append(':');
            for (int what = 0; what <= 9; what++) {
                all.append(' ').append(x.node(node, what));
            }
            for (int member = 0; member < n; member++) {
                all.append(" | ").append(x.queued(node, member));
                for (int what = 0; what <= 3; what++) {
                    all.append(' ').append(x.view(node, member, what));
                }
            }
        }
        for (int k = 0; k < x.flight(); k++) {
            all.append("\nmessage ").append(k).append(':');
            for (int what = 0; what < 7 + 3 * x.message(k, 6); what++) {
                all.append(' ').append(x.message(k, what));
            }
        }
        return all.toString();
    }
}
