/** The edges that promises 1 to 15 name: arguments too small and too large, and calls that are refused. */
public final class CallEdgesTest {
    private static final Check CHECK = new Check("CallEdgesTest");

    public static void main(String[] args) {
        fewestNodes();
        mostNodes();
        newObjectIsEmpty();
        startByItself();
        startOfNone();
        startOfOneThatRuns();
        startByNone();
        startByOneThatDoesNotRun();
        startAgainHasOnlyItself();
        startAgainHasNoProbe();
        startAgainHasNoRelays();
        crashRefused();
        leaveRefused();
        leaveWithNobodyToTell();
        cutOfNoTwoNodes();
        cutOfWhatIsSoAlready();
        dropOfNone();
        dropAtTheEnds();
        swapWithoutBoth();
        swapAtTheEnds();
        ticksOutside();
        ticksAtTheEnds();
        ticksOfTheLongestRun();
        ticksCountNoneThatIsLost();
        nowStandsStill();
        flightEmptyAndFull();
        messageOfNone();
        messageWithoutNews();
        messageWithEightNews();
        viewOfNoNode();
        viewOfNoMember();
        viewOfMissing();
        viewOfOthers();
        viewOfConfirmedWhenNotSuspect();
        nodeOfNone();
        nodeOfOthers();
        nodeThatDoesNotRun();
        nodeWithoutProbe();
        queuedOfNone();
        CHECK.end();
    }

    /** Beyond both ends of 0 .. n - 1, near and far, and where a shift by them would wrap around. */
    private static int[] outside(int n) {
        return new int[] {-1, n, -2, n + 1, 32, 33, -32, 64, Integer.MAX_VALUE, Integer.MIN_VALUE};
    }

    private static void fewestNodes() {
        CHECK.sentence("N is n, but at least 2");
        for (int n : new int[] {2, 1, 0, -1, -2, Integer.MIN_VALUE}) {
            GossipNodes x = new GossipNodes(n);
            CHECK.due("the second of " + n, x.start(1, 0), true);
            CHECK.due("a third of " + n, x.start(2, 0), false);
            CHECK.due("a third of " + n, x.node(2, 0), -1);
        }
        GossipNodes x = new GossipNodes(3);
        CHECK.due("the third of 3", x.start(2, 0), true);
        CHECK.due("a fourth of 3", x.start(3, 0), false);
    }

    private static void mostNodes() {
        CHECK.sentence("and at most 8");
        for (int n : new int[] {8, 9, 10, 100, Integer.MAX_VALUE}) {
            GossipNodes x = new GossipNodes(n);
            CHECK.due("the eighth of " + n, x.start(7, 0), true);
            CHECK.due("a ninth of " + n, x.start(8, 0), false);
            CHECK.due("a ninth of " + n, x.node(8, 0), -1);
        }
        GossipNodes x = new GossipNodes(7);
        CHECK.due("the seventh of 7", x.start(6, 0), true);
        CHECK.due("an eighth of 7", x.start(7, 0), false);
    }

    private static void newObjectIsEmpty() {
        CHECK.sentence("NOW is 0, nothing is on its way or cut.");
        for (int n = 2; n <= 8; n++) {
            GossipNodes x = new GossipNodes(n);
            CHECK.due("now", x.now(), 0);
            CHECK.due("flight", x.flight(), 0);
            CHECK.due("no message", x.message(0, 0), 0);
            for (int a = 0; a < n; a++) {
                CHECK.due("does not run", x.node(a, 0), 0);
                for (int b = 0; b < n; b++) {
                    CHECK.due("not cut " + a + " " + b, x.cut(a, b, false), false);
                }
            }
        }
    }

    private static void startByItself() {
        CHECK.sentence("if that is another one");
        GossipNodes x = new GossipNodes(8);
        CHECK.due("the first by itself", x.start(0, 0), true);
        CHECK.due("the last by itself", x.start(7, 7), true);
        CHECK.due("both run", x.node(0, 0) + x.node(7, 0), 2);
        CHECK.due("no SYNC", x.flight(), 0);
        CHECK.due("by another one", x.start(6, 7), true);
        CHECK.due("a SYNC", x.flight(), 1);
    }

    private static void startOfNone() {
        CHECK.sentence("False when there is none such");
        for (int n : new int[] {2, 3, 8}) {
            GossipNodes x = new GossipNodes(n);
            for (int node : outside(n)) {
                CHECK.due("start(" + node + ", 0) of " + n, x.start(node, 0), false);
                CHECK.due("start(" + node + ", itself) of " + n, x.start(node, node), false);
            }
            CHECK.due("nothing is sent", x.flight(), 0);
            CHECK.due("the first node is one", x.start(0, n - 1), true);
            CHECK.due("the last node is one", x.start(n - 1, 0), true);
        }
    }

    private static void startOfOneThatRuns() {
        CHECK.sentence("or it runs");
        GossipNodes x = Groups.pairOf(2);
        x.ticks(2);
        String before = Snapshot.of(x, 2);
        CHECK.due("by itself", x.start(0, 0), false);
        CHECK.due("by the other one", x.start(0, 1), false);
        CHECK.dueSame("nothing begins anew", Snapshot.of(x, 2), before);
        x.crash(0);
        CHECK.due("after a crash", x.start(0, 1), true);
        x.leave(0);
        CHECK.due("after it left", x.start(0, 1), true);
    }

    private static void startByNone() {
        CHECK.sentence("or there is no node by");
        for (int n : new int[] {2, 3, 8}) {
            GossipNodes x = new GossipNodes(n);
            for (int by : outside(n)) {
                CHECK.due("start(0, " + by + ") of " + n, x.start(0, by), false);
                CHECK.due("it does not begin", x.node(0, 0), 0);
            }
            CHECK.due("nothing is sent", x.flight(), 0);
        }
    }

    private static void startByOneThatDoesNotRun() {
        CHECK.sentence("A node that does not run begins");
        GossipNodes x = new GossipNodes(2);
        CHECK.due("a node by need not run", x.start(1, 0), true);
        CHECK.due("runs", x.node(1, 0), 1);
        CHECK.dueMessage("its SYNC", x, 0, new int[] {6, 1, 0, 0, 0, 0}, 1, 1, 0);
    }

    private static void startAgainHasOnlyItself() {
        CHECK.sentence("its table has itself, ALIVE with incarnation 0, its score is 0, its queue has that news");
        GossipNodes x = Groups.suspectingPairOf(2);
        x.start(1, 0);
        x.ticks(3);
        x.crash(1);
        x.ticks(17);
        CHECK.dueEntry("what 0 has of 1", x, 0, 1, 2, 1, 29, 1);
        CHECK.due("and will send", x.queued(0, 1) > 0, true);
        CHECK.due("its score", x.node(0, 2) > 0, true);
        x.crash(0);
        x.start(0, 0);
        CHECK.dueEntry("of 1 nothing", x, 0, 1, 0, 0, 0, 0);
        CHECK.due("nor to send", x.queued(0, 1), 0);
        CHECK.dueEntry("itself", x, 0, 0, 1, 0, 30, 0);
        CHECK.due("to send", x.queued(0, 0), 4);
        CHECK.due("one news", x.node(0, 8), 1);
        CHECK.due("score", x.node(0, 2), 0);
        GossipNodes y = Groups.suspectingPairOf(2);
        y.start(1, 0);
        y.ticks(3);
        CHECK.dueEntry("what 1 has of itself", y, 1, 1, 1, 1, 12, 0);
        CHECK.dueEntry("what 1 has of 0", y, 1, 0, 1, 0, 12, 0);
        y.leave(1);
        y.start(1, 1);
        CHECK.dueEntry("itself", y, 1, 1, 1, 0, 13, 0);
        CHECK.dueEntry("of 0 nothing", y, 1, 0, 0, 0, 0, 0);
        CHECK.due("nor to send", y.queued(1, 0), 0);
    }

    private static void startAgainHasNoProbe() {
        CHECK.sentence("its probe number is 0, REST is 2");
        GossipNodes x = Groups.pairOf(2);
        x.ticks(11);
        CHECK.dueProbe("answered", x, 0, 0, 1, 2, 1, 2, 0);
        x.crash(0);
        x.start(0, 0);
        CHECK.dueProbe("none goes on", x, 0, 0, -1, 0, 0, 0, 2);
        x.start(1, 0);
        x.ticks(1);
        CHECK.dueProbe("none goes on", x, 0, 0, -1, 0, 0, 0, 1);
    }

    private static void startAgainHasNoRelays() {
        CHECK.sentence("it has no relays");
        GossipNodes x = Groups.relayAtSix();
        x.cut(1, 2, true);
        CHECK.due("a relay", x.node(2, 9), 1);
        x.crash(2);
        x.start(2, 2);
        CHECK.due("none", x.node(2, 9), 0);
        x.ticks(3);
        CHECK.due("and no NACK", Wire.count(x, Wire.NACK, 2, Wire.ANY), 0);
    }

    private static void crashRefused() {
        CHECK.sentence("A node stops at once. True; false when it does not run or is none.");
        GossipNodes x = new GossipNodes(3);
        CHECK.due("has never run", x.crash(0), false);
        x.start(0, 0);
        x.start(2, 0);
        String before = Snapshot.of(x, 3);
        CHECK.due("does not run", x.crash(1), false);
        for (int node : outside(3)) {
            CHECK.due("crash(" + node + ")", x.crash(node), false);
        }
        CHECK.dueSame("nothing stops", Snapshot.of(x, 3), before);
        CHECK.due("the first", x.crash(0), true);
        CHECK.due("the first again", x.crash(0), false);
        x.leave(2);
        CHECK.due("the last has left", x.crash(2), false);
    }

    private static void leaveRefused() {
        CHECK.sentence("then it stops. True; false when it does not run or is none.");
        GossipNodes x = new GossipNodes(3);
        CHECK.due("has never run", x.leave(0), false);
        x.start(0, 0);
        x.start(2, 0);
        String before = Snapshot.of(x, 3);
        CHECK.due("does not run", x.leave(1), false);
        for (int node : outside(3)) {
            CHECK.due("leave(" + node + ")", x.leave(node), false);
        }
        CHECK.dueSame("nobody leaves", Snapshot.of(x, 3), before);
        CHECK.due("the last", x.leave(2), true);
        CHECK.due("the last again", x.leave(2), false);
        x.crash(0);
        CHECK.due("the first has crashed", x.leave(0), false);
    }

    private static void leaveWithNobodyToTell() {
        CHECK.sentence("a GOSSIP goes to each other node with an ALIVE entry, by rising nodes");
        GossipNodes alone = new GossipNodes(2);
        alone.start(0, 0);
        CHECK.due("alone, not even itself", alone.leave(0), true);
        CHECK.due("no GOSSIP", alone.flight(), 0);
        GossipNodes suspecting = Groups.suspectingPairOf(2);
        CHECK.due("a SUSPECT entry alone", suspecting.leave(0), true);
        CHECK.due("no GOSSIP", suspecting.flight(), 0);
        GossipNodes burying = Groups.suspectingPairOf(2);
        burying.ticks(18);
        Wire.lose(burying, Wire.ANY, Wire.ANY, Wire.ANY);
        CHECK.due("DEAD", burying.view(0, 1, 0), 3);
        CHECK.due("a DEAD entry alone", burying.leave(0), true);
        CHECK.due("no GOSSIP", burying.flight(), 0);
        GossipNodes three = Groups.startedBy0(3);
        three.ticks(1);
        Wire.lose(three, Wire.ANY, Wire.ANY, Wire.ANY);
        three.crash(2);
        three.leave(0);
        CHECK.due("one that does not run is told as well", three.flight(), 2);
        CHECK.due("the lower node", three.message(0, 2), 1);
        CHECK.due("then the higher node", three.message(1, 2), 2);
    }

    private static void cutOfNoTwoNodes() {
        CHECK.sentence("False when they are no two nodes");
        for (int n : new int[] {2, 3, 8}) {
            GossipNodes x = new GossipNodes(n);
            for (int none : outside(n)) {
                for (boolean is : new boolean[] {true, false}) {
                    CHECK.due("cut(" + none + ", 0, " + is + ")", x.cut(none, 0, is), false);
                    CHECK.due("cut(0, " + none + ", " + is + ")", x.cut(0, none, is), false);
                    CHECK.due("cut(" + none + ", " + none + ", " + is + ")", x.cut(none, none, is), false);
                }
            }
            for (int a = 0; a < n; a++) {
                CHECK.due("a node and itself, cut", x.cut(a, a, true), false);
                CHECK.due("a node and itself, joined", x.cut(a, a, false), false);
            }
            CHECK.due("the first and the last are two", x.cut(0, n - 1, true), true);
        }
    }

    private static void cutOfWhatIsSoAlready() {
        CHECK.sentence("or it is so already");
        GossipNodes x = new GossipNodes(8);
        for (int a = 0; a < 8; a++) {
            for (int b = 0; b < a; b++) {
                CHECK.due("not cut yet", x.cut(a, b, false), false);
                CHECK.due("cut", x.cut(a, b, true), true);
                CHECK.due("cut already", x.cut(b, a, true), false);
            }
        }
        for (int a = 0; a < 8; a++) {
            for (int b = 0; b < a; b++) {
                CHECK.due("joined", x.cut(b, a, false), true);
                CHECK.due("joined already", x.cut(a, b, false), false);
            }
        }
    }

    private static void dropOfNone() {
        CHECK.sentence("is lost: true; false when there is none.");
        GossipNodes empty = new GossipNodes(2);
        for (int k : new int[] {0, -1, 1, 59, 60, Integer.MAX_VALUE, Integer.MIN_VALUE}) {
            CHECK.due("drop(" + k + ") of none", empty.drop(k), false);
        }
        GossipNodes x = Groups.pairOf(2);
        String before = Snapshot.of(x, 2);
        for (int k : new int[] {2, -1, 3, 59, 60, Integer.MAX_VALUE, Integer.MIN_VALUE}) {
            CHECK.due("drop(" + k + ") of two", x.drop(k), false);
        }
        CHECK.dueSame("nothing is lost", Snapshot.of(x, 2), before);
    }

    private static void dropAtTheEnds() {
        CHECK.sentence("The message with k others before it is lost");
        GossipNodes x = Groups.fiftyNineOnTheirWay();
        x.start(2, 0);
        CHECK.due("behind the sixtieth", x.drop(60), false);
        CHECK.due("the last is that of 2", x.message(59, 1), 2);
        CHECK.due("the first", x.drop(0), true);
        CHECK.due("one less", x.flight(), 59);
        CHECK.due("all move up", x.message(58, 1), 2);
        CHECK.due("none behind", x.message(59, 0), 0);
        CHECK.due("the last", x.drop(58), true);
        CHECK.due("one less", x.flight(), 58);
        CHECK.due("it was that of 2", x.message(57, 1), 1);
        for (int left = 58; left > 0; left--) {
            CHECK.due("one after another", x.drop(0), true);
        }
        CHECK.due("the last of all is gone", x.drop(0), false);
        CHECK.due("none", x.flight(), 0);
    }

    private static void swapWithoutBoth() {
        CHECK.sentence("change places: true; false when there are not both.");
        GossipNodes empty = new GossipNodes(2);
        for (int k : new int[] {0, -1, 1, 59, 60, Integer.MAX_VALUE, Integer.MIN_VALUE}) {
            CHECK.due("swap(" + k + ") of none", empty.swap(k), false);
        }
        GossipNodes one = new GossipNodes(2);
        one.start(0, 1);
        for (int k : new int[] {0, -1, 1, 59, 60, Integer.MAX_VALUE, Integer.MIN_VALUE}) {
            CHECK.due("swap(" + k + ") of one", one.swap(k), false);
        }
        GossipNodes two = Groups.pairOf(2);
        String before = Snapshot.of(two, 2);
        for (int k : new int[] {1, -1, 2, 59, 60, Integer.MAX_VALUE, Integer.MIN_VALUE}) {
            CHECK.due("swap(" + k + ") of two", two.swap(k), false);
        }
        CHECK.dueSame("all stay in their places", Snapshot.of(two, 2), before);
    }

    private static void swapAtTheEnds() {
        CHECK.sentence("The message with k others before it and the next one change places");
        GossipNodes x = Groups.fiftyNineOnTheirWay();
        x.start(2, 0);
        CHECK.due("the last has no next one", x.swap(59), false);
        CHECK.due("the last two", x.swap(58), true);
        CHECK.due("that of 2 is the last but one", x.message(58, 1), 2);
        CHECK.due("that of 1 is the last", x.message(59, 1), 1);
        for (int k = 57; k >= 0; k--) {
            CHECK.due("swap(" + k + ")", x.swap(k), true);
        }
        CHECK.due("that of 2 is the first", x.message(0, 1), 2);
        CHECK.due("that of 1 is the second", x.message(1, 1), 1);
        CHECK.due("none is lost", x.flight(), 60);
    }

    private static void ticksOutside() {
        CHECK.sentence("-1 when n is not 0 .. 100.");
        GossipNodes x = Groups.pairOf(2);
        String before = Snapshot.of(x, 2);
        for (int n : new int[] {-1, 101, -2, 102, -100, Integer.MAX_VALUE, Integer.MIN_VALUE}) {
            CHECK.due("ticks(" + n + ")", x.ticks(n), -1);
        }
        CHECK.dueSame("not one tick", Snapshot.of(x, 2), before);
    }

    private static void ticksAtTheEnds() {
        CHECK.sentence("n ticks: how many messages came to running nodes that were not cut.");
        GossipNodes x = Groups.pairOf(2);
        String before = Snapshot.of(x, 2);
        CHECK.due("ticks(0)", x.ticks(0), 0);
        CHECK.dueSame("not one tick", Snapshot.of(x, 2), before);
        CHECK.due("ticks(1)", x.ticks(1), 2);
        CHECK.due("now", x.now(), 3);
        // From tick 4 to 103: the two ACKs of the first probes, PING and ACK of both for each of the
        // eleven probes begun at 11, 20 .. 101, SYNC and SYNCED of both at 20, 40 .. 100.
        CHECK.due("ticks(100)", x.ticks(100), 2 + 4 * 11 + 4 * 5);
        CHECK.due("now", x.now(), 103);
    }

    private static void ticksOfTheLongestRun() {
        CHECK.sentence("An object is used for at most 512 calls after it has been made");
        GossipNodes x = Groups.startedBy0(2);
        for (int i = 0; i < 500; i++) {
            x.ticks(100);
        }
        CHECK.due("now", x.now(), 50_000);
        // A probe begins at tick 2 and every nine ticks behind that.
        CHECK.due("probes", x.node(0, 6), 1 + (50_000 - 2) / 9);
        CHECK.due("agreed", x.agreed(), true);
    }

    private static void ticksCountNoneThatIsLost() {
        CHECK.sentence("one whose receiver does not run, or whose two nodes are CUT, is lost");
        GossipNodes idle = new GossipNodes(2);
        idle.start(0, 1);
        CHECK.due("none came to a node that does not run", idle.ticks(1), 0);
        CHECK.due("and it is gone", idle.flight(), 0);
        idle.start(1, 1);
        CHECK.due("it does not come later", idle.ticks(1), 0);
        GossipNodes cut = Groups.startedBy0(3);
        cut.cut(0, 1, true);
        CHECK.due("one of two came", cut.ticks(1), 1);
        CHECK.due("that of 1 did not", cut.view(0, 1, 0), 0);
        CHECK.due("that of 2 did", cut.view(0, 2, 0), 1);
        cut.cut(0, 1, false);
        CHECK.due("it does not come later, only the SYNCED to 2", cut.ticks(1), 1);
        CHECK.due("nor is it known", cut.view(0, 1, 0), 0);
        GossipNodes joined = Groups.startedBy0(2);
        joined.cut(1, 0, true);
        joined.cut(0, 1, false);
        CHECK.due("cut only while on its way", joined.ticks(1), 1);
        GossipNodes restarted = Groups.startedBy0(2);
        restarted.crash(0);
        restarted.start(0, 0);
        CHECK.due("to one that runs again", restarted.ticks(1), 1);
        GossipNodes orphan = Groups.startedBy0(2);
        orphan.crash(1);
        CHECK.due("of a sender that does not run any more", orphan.ticks(1), 1);
    }

    private static void nowStandsStill() {
        CHECK.sentence("NOW (0 at first) grows by 1");
        GossipNodes x = new GossipNodes(2);
        CHECK.due("at first", x.now(), 0);
        x.ticks(0);
        x.ticks(-1);
        x.ticks(101);
        x.start(0, 1);
        x.leave(0);
        x.drop(0);
        CHECK.due("without a tick", x.now(), 0);
        x.ticks(1);
        CHECK.due("one", x.now(), 1);
        x.ticks(100);
        CHECK.due("with no node running", x.now(), 101);
    }

    private static void flightEmptyAndFull() {
        CHECK.sentence("How many messages are on their way.");
        GossipNodes x = new GossipNodes(3);
        CHECK.due("none at first", x.flight(), 0);
        x.start(0, 0);
        CHECK.due("none of one alone", x.flight(), 0);
        for (int k = 1; k <= 60; k++) {
            Groups.sendBy(x, 1, 0, 1);
            CHECK.due("one more", x.flight(), k);
        }
        Groups.sendBy(x, 1, 0, 1);
        CHECK.due("full", x.flight(), 60);
        x.crash(0);
        x.ticks(1);
        CHECK.due("none when all are lost", x.flight(), 0);
    }

    private static void messageOfNone() {
        CHECK.sentence("0 for others, and when there is none.");
        GossipNodes empty = new GossipNodes(2);
        GossipNodes two = Groups.pairOf(2);
        for (int what = -1; what <= 31; what++) {
            CHECK.due("message(0, " + what + ") of none", empty.message(0, what), 0);
            for (int k : new int[] {-1, 2, 60, Integer.MAX_VALUE, Integer.MIN_VALUE}) {
                CHECK.due("message(" + k + ", " + what + ") of two", two.message(k, what), 0);
            }
        }
        for (int what : new int[] {-1, -2, -7, 13, 14, 15, 31, 60, Integer.MAX_VALUE, Integer.MIN_VALUE}) {
            CHECK.due("message(1, " + what + ")", two.message(1, what), 0);
        }
        CHECK.due("the last part is none of the others", two.message(1, 11), 1);
    }

    private static void messageWithoutNews() {
        CHECK.sentence("6 how many news it carries");
        GossipNodes x = Groups.pairOf(2);
        x.ticks(18);
        CHECK.dueMessage("PING of an empty queue", x, 0, new int[] {1, 0, 1, 3, 0, 1});
        for (int what = 6; what <= 31; what++) {
            CHECK.due("message(0, " + what + ")", x.message(0, what), 0);
        }
    }

    private static void messageWithEightNews() {
        CHECK.sentence("9 + 3 * i node, state, incarnation of news i.");
        GossipNodes x = Groups.startedBy0(8);
        x.ticks(1);
        CHECK.due("a SYNCED to each", x.flight(), 7);
        CHECK.dueMessage("the last tells of all", x, 6, new int[] {7, 0, 7, 0, 0, 0},
                0, 1, 0, 1, 1, 0, 2, 1, 0, 3, 1, 0, 4, 1, 0, 5, 1, 0, 6, 1, 0, 7, 1, 0);
        CHECK.dueMessage("the first tells of two", x, 0, new int[] {7, 0, 1, 0, 0, 0}, 0, 1, 0, 1, 1, 0);
    }

    private static void viewOfNoNode() {
        CHECK.sentence("-1 when node is none, or does not run.");
        GossipNodes x = new GossipNodes(3);
        x.start(0, 0);
        for (int what = -1; what <= 4; what++) {
            for (int node : outside(3)) {
                CHECK.due("view(" + node + ", 0, " + what + ")", x.view(node, 0, what), -1);
            }
            CHECK.due("of one that does not run, itself", x.view(1, 1, what), -1);
            CHECK.due("of one that does not run, another", x.view(1, 0, what), -1);
            CHECK.due("of one that does not run, none", x.view(1, 3, what), -1);
        }
        x.crash(0);
        CHECK.due("has crashed", x.view(0, 0, 0), -1);
        x.start(0, 0);
        x.leave(0);
        CHECK.due("has left", x.view(0, 0, 0), -1);
    }

    private static void viewOfNoMember() {
        CHECK.sentence("and for a member that is none");
        GossipNodes x = new GossipNodes(3);
        x.ticks(4);
        x.start(2, 2);
        for (int what = -1; what <= 4; what++) {
            for (int member : outside(3)) {
                CHECK.due("view(2, " + member + ", " + what + ")", x.view(2, member, what), 0);
            }
        }
        CHECK.due("the last member is one", x.view(2, 2, 2), 4);
    }

    private static void viewOfMissing() {
        CHECK.sentence("0 its state (0 when it is missing)");
        GossipNodes x = Groups.pairOf(3);
        CHECK.dueEntry("has never run", x, 0, 2, 0, 0, 0, 0);
        CHECK.dueEntry("is there", x, 0, 1, 1, 0, 1, 0);
        x.crash(0);
        x.start(0, 0);
        CHECK.dueEntry("known before the crash", x, 0, 1, 0, 0, 0, 0);
    }

    private static void viewOfOthers() {
        CHECK.sentence("0 for others, and for a member");
        GossipNodes x = Groups.suspectingPairOf(2);
        CHECK.dueEntry("all there is", x, 0, 1, 2, 0, 10, 1);
        for (int what : new int[] {-1, 4, -2, 5, 100, Integer.MAX_VALUE, Integer.MIN_VALUE}) {
            CHECK.due("view(0, 1, " + what + ")", x.view(0, 1, what), 0);
        }
    }

    private static void viewOfConfirmedWhenNotSuspect() {
        CHECK.sentence("3 how many confirmed it (0 when it is not SUSPECT)");
        GossipNodes x = Groups.pairOf(2);
        CHECK.due("ALIVE", x.view(0, 1, 3), 0);
        x.crash(1);
        x.ticks(8);
        CHECK.due("SUSPECT", x.view(0, 1, 3), 1);
        x.ticks(17);
        CHECK.due("SUSPECT for the last time", x.view(0, 1, 3), 1);
        x.ticks(1);
        CHECK.due("DEAD", x.view(0, 1, 3), 0);
        CHECK.due("itself", x.view(0, 0, 3), 0);
    }

    private static void nodeOfNone() {
        CHECK.sentence("-1 when there is none");
        for (int n : new int[] {2, 3, 8}) {
            GossipNodes x = new GossipNodes(n);
            x.start(0, 0);
            for (int what = -1; what <= 10; what++) {
                for (int node : outside(n)) {
                    CHECK.due("node(" + node + ", " + what + ") of " + n, x.node(node, what), -1);
                }
            }
            CHECK.due("the last is one", x.node(n - 1, 0), 0);
        }
    }

    private static void nodeOfOthers() {
        CHECK.sentence("or what is not 0 .. 9.");
        GossipNodes x = new GossipNodes(2);
        x.start(0, 0);
        for (int node = 0; node < 2; node++) {
            for (int what : new int[] {-1, 10, -2, 11, 100, Integer.MAX_VALUE, Integer.MIN_VALUE}) {
                CHECK.due("node(" + node + ", " + what + ")", x.node(node, what), -1);
            }
        }
        CHECK.due("the last what is one", x.node(0, 9), 0);
    }

    private static void nodeThatDoesNotRun() {
        CHECK.sentence("0 for 1 to 9 when it does not run");
        GossipNodes x = new GossipNodes(2);
        for (int what = 0; what <= 9; what++) {
            CHECK.due("has never run: node(0, " + what + ")", x.node(0, what), 0);
        }
        GossipNodes crashed = Groups.suspectingPairOf(2);
        crashed.ticks(3);
        CHECK.dueProbe("a score, a probe", crashed, 0, 1, 1, 1, 0, 2);
        crashed.crash(0);
        for (int what = 0; what <= 9; what++) {
            CHECK.due("has crashed: node(0, " + what + ")", crashed.node(0, what), 0);
        }
        GossipNodes left = Groups.pairOf(2);
        left.leave(0);
        for (int what = 0; what <= 9; what++) {
            CHECK.due("has left: node(0, " + what + ")", left.node(0, what), 0);
        }
    }

    private static void nodeWithoutProbe() {
        CHECK.sentence("(-1 for none), 4 its CLOCK, 5 1 if it is answered (4 and 5: 0 when none goes on)");
        GossipNodes x = Groups.pairOf(2);
        CHECK.dueProbe("begins", x, 0, 0, 1, 0, 0);
        x.ticks(7);
        CHECK.dueProbe("its last tick", x, 0, 0, 1, 7, 1);
        x.ticks(1);
        CHECK.dueProbe("none goes on", x, 0, 0, -1, 0, 0);
        x.ticks(1);
        CHECK.dueProbe("the next begins, not answered", x, 0, 0, 1, 0, 0);
        GossipNodes alone = new GossipNodes(2);
        alone.start(0, 0);
        for (int t = 0; t < 12; t++) {
            CHECK.dueProbe("none to probe", alone, 0, 0, -1, 0, 0, 0);
            alone.ticks(1);
        }
    }

    private static void queuedOfNone() {
        CHECK.sentence("Sendings left of the news of a member in a node's queue; 0 when there are none.");
        GossipNodes x = new GossipNodes(3);
        CHECK.due("has never run", x.queued(0, 0), 0);
        x.start(0, 0);
        CHECK.due("its own news", x.queued(0, 0), 4);
        CHECK.due("a missing member", x.queued(0, 1), 0);
        for (int none : outside(3)) {
            CHECK.due("queued(0, " + none + ")", x.queued(0, none), 0);
            CHECK.due("queued(" + none + ", 0)", x.queued(none, 0), 0);
            CHECK.due("queued(" + none + ", " + none + ")", x.queued(none, none), 0);
        }
        x.crash(0);
        CHECK.due("has crashed", x.queued(0, 0), 0);
        x.start(0, 0);
        x.leave(0);
        CHECK.due("has left", x.queued(0, 0), 0);
    }
}
