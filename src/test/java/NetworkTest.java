/** Promises 5 to 11: cut, drop, swap, ticks, now, flight, message. */
public final class NetworkTest {
    private static final Check CHECK = new Check("NetworkTest");

    public static void main(String[] args) {
        cutIsMutual();
        cutIsRefused();
        cutLosesMessages();
        dropLosesOne();
        swapChangesPlaces();
        swapChangesWhatIsLearnedFirst();
        ticksAreCounted();
        ticksAreRefused();
        flightHoldsSixty();
        messageAnswersItsParts();
        messagesInTheirOrder();
        CHECK.end();
    }

    private static GossipNodes twoThatKnowEachOther() {
        GossipNodes x = Groups.startedBy0(2);
        x.ticks(2);
        return x;
    }

    private static void cutIsMutual() {
        GossipNodes x = new GossipNodes(3);
        CHECK.due("cut", x.cut(0, 2, true), true);
        CHECK.due("cut the other way round", x.cut(2, 0, true), false);
        CHECK.due("another pair", x.cut(2, 1, true), true);
        CHECK.due("joined the other way round", x.cut(2, 0, false), true);
        CHECK.due("joined already", x.cut(0, 2, false), false);
        CHECK.due("the other pair stays", x.cut(1, 2, true), false);
    }

    private static void cutIsRefused() {
        GossipNodes x = new GossipNodes(3);
        int[][] pairs = {{-1, 0}, {0, -1}, {3, 0}, {0, 3}, {1, 1}, {32, 0}, {0, 33}, {Integer.MIN_VALUE, 1}};
        for (int[] pair : pairs) {
            CHECK.due("cut " + pair[0] + " " + pair[1], x.cut(pair[0], pair[1], true), false);
            CHECK.due("join " + pair[0] + " " + pair[1], x.cut(pair[0], pair[1], false), false);
        }
        CHECK.due("nothing was cut", x.cut(0, 1, true), true);
    }

    private static void cutLosesMessages() {
        GossipNodes x = Groups.startedBy0(3);
        x.cut(0, 1, true);
        CHECK.due("only one SYNC comes", x.ticks(1), 1);
        CHECK.due("only one is answered", x.flight(), 1);
        CHECK.due("to node 2", x.message(0, 2), 2);
        CHECK.due("node 1 is missing", x.view(0, 1, 0), 0);
        x.cut(0, 2, true);
        CHECK.due("cut while on its way", x.ticks(1), 0);
        CHECK.due("a node that was cut from still runs", x.node(2, 0), 1);
        CHECK.due("and knows nobody", x.view(2, 0, 0), 0);
        x.crash(1);
        x.start(1, 0);
        x.cut(0, 1, false);
        CHECK.due("not cut any more, but for node 2", x.ticks(1), 1);
        CHECK.due("known", x.view(0, 1, 0), 1);
    }

    private static void dropLosesOne() {
        GossipNodes x = new GossipNodes(4);
        CHECK.due("nothing to drop", x.drop(0), false);
        x.start(0, 0);
        x.start(1, 0);
        x.start(2, 0);
        x.start(3, 0);
        CHECK.due("drop -1", x.drop(-1), false);
        CHECK.due("drop behind the last", x.drop(3), false);
        CHECK.due("drop far", x.drop(Integer.MAX_VALUE), false);
        CHECK.due("drop the middle one", x.drop(1), true);
        CHECK.due("two stay", x.flight(), 2);
        CHECK.dueMessage("the first stays", x, 0, new int[] {6, 1, 0, 0, 0, 0}, 1, 1, 0);
        CHECK.dueMessage("the last moves up", x, 1, new int[] {6, 3, 0, 0, 0, 0}, 3, 1, 0);
        CHECK.due("no third one", x.message(2, 0), 0);
        CHECK.due("drop the last", x.drop(1), true);
        CHECK.due("one comes", x.ticks(1), 1);
        CHECK.due("that of 1", x.view(0, 1, 0), 1);
        CHECK.due("not that of 2", x.view(0, 2, 0), 0);
        CHECK.due("not that of 3", x.view(0, 3, 0), 0);
    }

    private static void swapChangesPlaces() {
        GossipNodes x = new GossipNodes(4);
        CHECK.due("nothing to swap", x.swap(0), false);
        x.start(0, 0);
        x.start(1, 0);
        CHECK.due("one alone", x.swap(0), false);
        x.start(2, 0);
        x.start(3, 0);
        CHECK.due("swap -1", x.swap(-1), false);
        CHECK.due("swap the last", x.swap(2), false);
        CHECK.due("swap behind the last", x.swap(3), false);
        CHECK.due("swap far", x.swap(Integer.MAX_VALUE), false);
        CHECK.due("swap the last two", x.swap(1), true);
        CHECK.due("swap the first two", x.swap(0), true);
        int[] senders = {3, 1, 2};
        for (int k = 0; k < 3; k++) {
            CHECK.dueMessage("swapped", x, k, new int[] {6, senders[k], 0, 0, 0, 0}, senders[k], 1, 0);
        }
        CHECK.due("all come", x.ticks(1), 3);
        CHECK.due("answered in that order", x.message(0, 2), 3);
        CHECK.due("the first is told of two", x.message(0, 6), 2);
        CHECK.due("the last is told of four", x.message(2, 6), 4);
    }

    /** A node's GOSSIP that overtakes its SYNC: the SYNC of before is not greater then. */
    private static void swapChangesWhatIsLearnedFirst() {
        GossipNodes x = Groups.startedBy0(2);
        x.ticks(2);
        x.crash(1);
        x.start(1, 0);
        x.ticks(1);
        x.ticks(1);
        x.leave(1);
        int last = x.flight() - 1;
        CHECK.due("its GOSSIP is the last one", x.message(last, 0), 5);
        for (int k = last; k > 0; k--) {
            x.swap(k - 1);
        }
        CHECK.due("its GOSSIP is the first one", x.message(0, 0), 5);
        x.ticks(1);
        CHECK.due("DEAD stays", x.view(0, 1, 0), 3);
    }

    private static void ticksAreCounted() {
        GossipNodes x = new GossipNodes(2);
        CHECK.due("no ticks", x.ticks(0), 0);
        CHECK.due("now", x.now(), 0);
        CHECK.due("a hundred", x.ticks(100), 0);
        CHECK.due("now", x.now(), 100);
        x.start(0, 0);
        x.start(1, 0);
        CHECK.due("ticks(0) moves nothing", x.ticks(0), 0);
        CHECK.due("still on its way", x.flight(), 1);
        CHECK.due("SYNC and SYNCED", x.ticks(2), 2);
        CHECK.due("now", x.now(), 102);
        CHECK.due("two PINGs, two ACKs", x.ticks(8), 4);
        CHECK.due("and again", x.ticks(9), 4);
        CHECK.due("probes and syncs together", x.ticks(1), 0);
        CHECK.due("two PINGs, two SYNCs", x.ticks(1), 4);
        CHECK.due("their answers", x.ticks(1), 4);
        CHECK.due("now", x.now(), 122);
    }

    private static void ticksAreRefused() {
        GossipNodes x = twoThatKnowEachOther();
        for (int n : new int[] {-1, 101, 1000, Integer.MAX_VALUE, Integer.MIN_VALUE}) {
            CHECK.due("ticks(" + n + ")", x.ticks(n), -1);
        }
        CHECK.due("time stands", x.now(), 2);
        CHECK.due("and so do messages", x.flight(), 2);
    }

    private static void flightHoldsSixty() {
        GossipNodes x = new GossipNodes(3);
        x.start(0, 0);
        x.start(1, 0);
        x.ticks(1);
        for (int i = 1; i <= 59; i++) {
            x.start(2, 0);
            x.crash(2);
        }
        CHECK.due("sixty", x.flight(), 60);
        CHECK.due("one more may start", x.start(2, 1), true);
        x.crash(2);
        CHECK.due("but its SYNC is lost", x.flight(), 60);
        CHECK.due("the last stays what it was", x.message(59, 2), 0);
        CHECK.due("all sixty come", x.ticks(1), 60);
        CHECK.due("59 answers and a PING", x.flight(), 60);
        CHECK.dueMessage("the PING of 0", x, 59, new int[] {1, 0, 1, 1, 0, 1}, 0, 1, 0, 1, 1, 0, 2, 1, 0);
        CHECK.due("the probe of 1 goes on", x.node(1, 3), 0);
        CHECK.due("with its number", x.node(1, 6), 1);
        CHECK.due("its PING was sent, and lost", x.queued(1, 1), 3);
        CHECK.due("only the PING comes", x.ticks(1), 1);
        CHECK.due("and is answered", x.flight(), 1);
        CHECK.due("drop(60)", x.drop(60), false);
        CHECK.due("swap(59)", x.swap(59), false);
    }

    private static void messageAnswersItsParts() {
        GossipNodes x = twoThatKnowEachOther();
        CHECK.due("flight", x.flight(), 2);
        CHECK.dueMessage("PING", x, 0, new int[] {1, 0, 1, 1, 0, 1}, 0, 1, 0, 1, 1, 0);
        CHECK.dueMessage("PING back", x, 1, new int[] {1, 1, 0, 1, 1, 0}, 0, 1, 0, 1, 1, 0);
        int[] others = {-1, -7, 13, 14, 30, 31, 1000, Integer.MAX_VALUE, Integer.MIN_VALUE};
        for (int what : others) {
            CHECK.due("message(1, " + what + ")", x.message(1, what), 0);
        }
        for (int k : new int[] {-1, 2, 59, 60, Integer.MAX_VALUE, Integer.MIN_VALUE}) {
            for (int what = 0; what < 14; what++) {
                CHECK.due("message(" + k + ", " + what + ")", x.message(k, what), 0);
            }
        }
        x.ticks(1);
        CHECK.dueMessage("ACK", x, 0, new int[] {2, 1, 0, 1, 0, 1}, 0, 1, 0, 1, 1, 0);
        CHECK.dueMessage("ACK back", x, 1, new int[] {2, 0, 1, 1, 1, 0}, 0, 1, 0, 1, 1, 0);
    }

    /** By the twentieth tick the queues are empty: the PINGs carry nothing, the SYNCs all. */
    private static void messagesInTheirOrder() {
        GossipNodes x = twoThatKnowEachOther();
        x.ticks(17);
        CHECK.due("nothing before", x.flight(), 0);
        x.ticks(1);
        CHECK.due("flight", x.flight(), 4);
        CHECK.dueMessage("PING of 0", x, 0, new int[] {1, 0, 1, 3, 0, 1});
        CHECK.dueMessage("SYNC of 0", x, 1, new int[] {6, 0, 1, 0, 0, 0}, 0, 1, 0, 1, 1, 0);
        CHECK.dueMessage("PING of 1", x, 2, new int[] {1, 1, 0, 3, 1, 0});
        CHECK.dueMessage("SYNC of 1", x, 3, new int[] {6, 1, 0, 0, 0, 0}, 0, 1, 0, 1, 1, 0);
        x.ticks(1);
        int[] kinds = {2, 7, 2, 7};
        for (int k = 0; k < 4; k++) {
            CHECK.due("answer " + k, x.message(k, 0), kinds[k]);
            CHECK.due("receiver " + k, x.message(k, 2), k / 2);
        }
    }
}
