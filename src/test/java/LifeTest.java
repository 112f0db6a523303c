/** Promises 1 to 4: a new object, start, crash, leave. */
public final class LifeTest {
    private static final Check CHECK = new Check("LifeTest");

    public static void main(String[] args) {
        newObjectHasTwoToEightNodes();
        newObjectIsStill();
        startBegins();
        startIsRefused();
        startAgainForgetsAll();
        crashStopsAtOnce();
        crashedNodeStillHasMessagesOnTheirWay();
        leaveTellsThoseAlive();
        leaveSharesOutTheQueue();
        leaveTellsNoneThatIsSuspect();
        leaveSaysTheIncarnation();
        CHECK.end();
    }

    private static void newObjectHasTwoToEightNodes() {
        int[][] asked = {{Integer.MIN_VALUE, 2}, {-1, 2}, {0, 2}, {1, 2}, {2, 2}, {3, 3}, {7, 7}, {8, 8}, {9, 8},
            {Integer.MAX_VALUE, 8}};
        for (int[] pair : asked) {
            GossipNodes x = new GossipNodes(pair[0]);
            CHECK.due("last node of " + pair[0], x.node(pair[1] - 1, 0), 0);
            CHECK.due("one behind the last of " + pair[0], x.node(pair[1], 0), -1);
        }
    }

    private static void newObjectIsStill() {
        GossipNodes x = new GossipNodes(4);
        CHECK.due("now", x.now(), 0);
        CHECK.due("flight", x.flight(), 0);
        CHECK.due("agreed without nodes", x.agreed(), true);
        for (int a = 0; a < 4; a++) {
            CHECK.due("runs", x.node(a, 0), 0);
            for (int b = 0; b < 4; b++) {
                CHECK.due("nothing is cut", x.cut(a, b, false), false);
            }
        }
    }

    private static void startBegins() {
        GossipNodes x = new GossipNodes(3);
        x.ticks(7);
        CHECK.due("alone", x.start(1, 1), true);
        CHECK.due("alone sends nothing", x.flight(), 0);
        CHECK.due("joining", x.start(2, 1), true);
        CHECK.due("joining sends one", x.flight(), 1);
        CHECK.dueMessage("SYNC", x, 0, new int[] {6, 2, 1, 0, 0, 0}, 2, 1, 0);
        int[] node = {1, 0, 0, -1, 0, 0, 0, 2, 1, 0};
        for (int what = 0; what < node.length; what++) {
            CHECK.due("node(2, " + what + ")", x.node(2, what), node[what]);
        }
        CHECK.due("itself ALIVE", x.view(2, 2, 0), 1);
        CHECK.due("incarnation", x.view(2, 2, 1), 0);
        CHECK.due("since", x.view(2, 2, 2), 7);
        CHECK.due("the other is missing", x.view(2, 1, 0), 0);
        CHECK.due("announced", x.queued(2, 2), 4);
    }

    private static void startIsRefused() {
        GossipNodes x = new GossipNodes(3);
        CHECK.due("node -1", x.start(-1, 0), false);
        CHECK.due("node 3", x.start(3, 0), false);
        CHECK.due("by -1", x.start(0, -1), false);
        CHECK.due("by 3", x.start(0, 3), false);
        CHECK.due("none runs", x.node(0, 0), 0);
        CHECK.due("by one that does not run", x.start(0, 1), true);
        CHECK.due("it is sent all the same", x.flight(), 1);
        CHECK.due("runs already", x.start(0, 1), false);
        CHECK.due("nothing more is sent", x.flight(), 1);
        CHECK.due("lost there", x.ticks(1), 0);
    }

    private static void startAgainForgetsAll() {
        GossipNodes x = Groups.startedBy0(2);
        x.ticks(2);
        x.crash(1);
        x.ticks(18);
        CHECK.due("score before", x.node(0, 2), 2);
        CHECK.due("probes before", x.node(0, 6), 2);
        x.crash(0);
        CHECK.due("again", x.start(0, 0), true);
        int[] node = {1, 0, 0, -1, 0, 0, 0, 2, 1, 0};
        for (int what = 0; what < node.length; what++) {
            CHECK.due("again node(0, " + what + ")", x.node(0, what), node[what]);
        }
        CHECK.due("the other is forgotten", x.view(0, 1, 0), 0);
        CHECK.due("its news too", x.queued(0, 1), 0);
        CHECK.due("its own news is new", x.queued(0, 0), 4);
        CHECK.due("since then", x.view(0, 0, 2), 20);
    }

    private static void crashStopsAtOnce() {
        GossipNodes x = new GossipNodes(2);
        CHECK.due("does not run yet", x.crash(0), false);
        x.start(0, 0);
        CHECK.due("crash", x.crash(0), true);
        CHECK.due("sends nothing", x.flight(), 0);
        CHECK.due("does not run", x.node(0, 0), 0);
        CHECK.due("crash again", x.crash(0), false);
        CHECK.due("crash -1", x.crash(-1), false);
        CHECK.due("crash 2", x.crash(2), false);
    }

    private static void crashedNodeStillHasMessagesOnTheirWay() {
        GossipNodes x = Groups.startedBy0(2);
        x.ticks(2);
        x.crash(1);
        CHECK.due("both PINGs stay", x.flight(), 2);
        CHECK.due("only its own one comes", x.ticks(1), 1);
        CHECK.dueMessage("answered all the same", x, 0, new int[] {2, 0, 1, 1, 1, 0}, 0, 1, 0, 1, 1, 0);
        CHECK.due("the ACK is lost", x.ticks(1), 0);
    }

    private static void leaveTellsThoseAlive() {
        GossipNodes x = new GossipNodes(3);
        CHECK.due("does not run yet", x.leave(0), false);
        CHECK.due("leave -1", x.leave(-1), false);
        CHECK.due("leave 3", x.leave(3), false);
        x.start(0, 0);
        x.start(2, 0);
        x.ticks(1);
        x.drop(0);
        CHECK.due("leave", x.leave(0), true);
        CHECK.due("one is told", x.flight(), 1);
        CHECK.dueMessage("GOSSIP", x, 0, new int[] {5, 0, 2, 0, 0, 0}, 0, 3, 0, 2, 1, 0);
        CHECK.due("does not run", x.node(0, 0), 0);
        CHECK.due("leave again", x.leave(0), false);
        CHECK.due("told", x.ticks(1), 1);
        CHECK.due("DEAD there", x.view(2, 0, 0), 3);
        CHECK.due("since", x.view(2, 0, 2), 2);
        CHECK.due("passed on", x.queued(2, 0), 4);
        CHECK.due("agreed", x.agreed(), true);
        CHECK.due("the last one leaves", x.leave(2), true);
        CHECK.due("nobody to tell", x.flight(), 0);
    }

    /** Three news a message, most sendings first: the farewell itself is not in each GOSSIP. */
    private static void leaveSharesOutTheQueue() {
        GossipNodes x = Groups.startedBy0(8);
        x.ticks(2);
        CHECK.due("a PING of each", x.flight(), 8);
        CHECK.due("leave", x.leave(0), true);
        CHECK.due("seven are told", x.flight(), 15);
        int[][] told = {{0, 3, 4}, {5, 6, 7}, {0, 1, 2}, {3, 4, 5}, {6, 7, 0}, {1, 2, 3}, {4, 5, 6}};
        for (int i = 0; i < 7; i++) {
            int[] m = told[i];
            CHECK.dueMessage("GOSSIP to " + (i + 1), x, 8 + i, new int[] {5, 0, i + 1, 0, 0, 0},
                    m[0], m[0] == 0 ? 3 : 1, 0, m[1], m[1] == 0 ? 3 : 1, 0, m[2], m[2] == 0 ? 3 : 1, 0);
        }
    }

    private static void leaveTellsNoneThatIsSuspect() {
        GossipNodes x = Groups.startedBy0(2);
        x.ticks(2);
        x.crash(1);
        x.ticks(9);
        CHECK.due("SUSPECT", x.view(0, 1, 0), 2);
        CHECK.due("leave", x.leave(0), true);
        CHECK.due("none is told", x.flight(), 0);
    }

    private static void leaveSaysTheIncarnation() {
        GossipNodes x = Groups.startedBy0(2);
        x.ticks(2);
        x.cut(0, 1, true);
        x.ticks(8);
        x.cut(0, 1, false);
        x.ticks(5);
        CHECK.due("it has refuted", x.node(1, 1), 1);
        CHECK.due("leave", x.leave(1), true);
        int last = x.flight() - 1;
        CHECK.due("GOSSIP", x.message(last, 0), 5);
        x.ticks(1);
        CHECK.due("DEAD", x.view(0, 1, 0), 3);
        CHECK.due("with its incarnation", x.view(0, 1, 1), 1);
    }
}
