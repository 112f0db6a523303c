/** The edges under "Terms" of messages: sixty on their way, three news each, what an arrival finds. */
public final class MessageEdgesTest {
    private static final Check CHECK = new Check("MessageEdgesTest");

    public static void main(String[] args) {
        sixtyOnTheirWay();
        oneMoreIsLost();
        lostGossip();
        lostPing();
        lostAskStillCounts();
        sixtyArriveAndAreAnswered();
        threeNewsAtMost();
        fewerNewsThanThree();
        mostSendingsFirst();
        newsWithNoSendings();
        syncTakesNoSendings();
        syncCarriesTheWholeTable();
        sentInATickArrivesInTheNext();
        pingIsAnsweredToItsSender();
        ackWithoutProbe();
        ackOfAnotherNumber();
        ackWithoutRelay();
        ackOfAnotherOrigin();
        threeRelays();
        fourRelays();
        fiveAskAndFourAreNoted();
        relaysHaveRoomAgain();
        nackWithoutProbe();
        nackOfAnotherNumber();
        askIsNoNack();
        otherKindsAreNotAnswered();
        numberOfGossipIsNothing();
        CHECK.end();
    }

    private static void sixtyOnTheirWay() {
        CHECK.sentence("MESSAGES on their way are at most 60, in the order of sending");
        GossipNodes x = Groups.fiftyNineOnTheirWay();
        CHECK.due("59", x.flight(), 59);
        x.start(2, 0);
        CHECK.due("the sixtieth has room", x.flight(), 60);
        CHECK.dueMessage("the sixtieth", x, 59, new int[] {6, 2, 0, 0, 0, 0}, 2, 1, 0);
        CHECK.dueMessage("the one before", x, 58, new int[] {6, 1, 0, 0, 0, 0}, 1, 1, 0);
        CHECK.due("all come", x.ticks(1), 60);
        CHECK.due("the sixtieth too", x.view(0, 2, 0), 1);
    }

    private static void oneMoreIsLost() {
        CHECK.sentence("one more that is sent is lost");
        GossipNodes x = Groups.fiftyNineOnTheirWay();
        Groups.sendBy(x, 1, 0, 1);
        CHECK.due("it starts all the same", x.start(2, 0), true);
        CHECK.due("still sixty", x.flight(), 60);
        CHECK.due("the last is that of before", x.message(59, 1), 1);
        CHECK.due("none behind it", x.message(60, 0), 0);
        x.drop(0);
        CHECK.due("it does not wait for a place", x.flight(), 59);
        Groups.sendBy(x, 1, 0, 1);
        CHECK.due("the place is taken by the next", x.flight(), 60);
        CHECK.due("sixty come", x.ticks(1), 60);
        CHECK.due("that of 1", x.view(0, 1, 0), 1);
        CHECK.due("but not the lost one", x.view(0, 2, 0), 0);
    }

    private static void lostGossip() {
        CHECK.sentence("one more that is sent is lost");
        GossipNodes x = Groups.pairOf(3);
        Groups.sendBy(x, 2, 0, 58);
        CHECK.due("full", x.flight(), 60);
        CHECK.due("it leaves all the same", x.leave(1), true);
        CHECK.due("still sixty", x.flight(), 60);
        x.ticks(1);
        CHECK.due("nobody was told", x.view(0, 1, 0), 1);
        GossipNodes y = Groups.pairOf(3);
        Groups.sendBy(y, 2, 0, 57);
        y.leave(1);
        CHECK.due("with room for one", y.flight(), 60);
        y.ticks(1);
        CHECK.due("it was told", y.view(0, 1, 0), 3);
    }

    private static void lostPing() {
        CHECK.sentence("one more that is sent is lost");
        GossipNodes x = new GossipNodes(3);
        x.start(0, 0);
        x.start(1, 0);
        x.ticks(1);
        Groups.sendBy(x, 2, 0, 59);
        CHECK.due("SYNCED and 59 SYNCs", x.ticks(1), 60);
        CHECK.due("59 SYNCEDs and the PING of 0", x.flight(), 60);
        CHECK.due("the PING of 0", x.message(59, 1), 0);
        CHECK.dueProbe("the probe of 1 goes on without its PING", x, 1, 0, 0, 0, 0, 1, 0);
        CHECK.due("its PING is none of these", Wire.count(x, Wire.PING, 1, Wire.ANY), 0);
        CHECK.due("its news were sent once", x.queued(1, 1), 3);
        x.ticks(8);
        CHECK.dueProbe("nothing answered it", x, 1, 1, -1, 0, 0, 1, 2);
        CHECK.due("so it suspects", x.view(1, 0, 0), 2);
        CHECK.due("the other was answered", x.view(0, 1, 0), 1);
    }

    /** Whom a lost ASK was for was asked, and sends no NACK. */
    private static void lostAskStillCounts() {
        CHECK.sentence("one more that is sent is lost");
        GossipNodes x = Groups.startedBy0(4);
        x.ticks(2);
        Wire.cutFromAll(x, 1, 4, true);
        x.ticks(2);
        x.crash(3);
        Wire.lose(x, Wire.ANY, Wire.ANY, Wire.ANY);
        // Each SYNC is answered before the timers, so that one place is left for the two ASKs of 0.
        Groups.sendBy(x, 3, 2, 59);
        x.ticks(1);
        CHECK.due("full", x.flight(), 60);
        CHECK.due("an ASK", x.message(59, 0), 3);
        CHECK.due("the first one: the second one is lost", x.message(59, 2), 2);
        x.ticks(5);
        CHECK.dueProbe("two were asked, and one sent a NACK", x, 0, 1, -1, 0, 0, 1, 2);
    }

    private static void sixtyArriveAndAreAnswered() {
        CHECK.sentence("Then all messages that were on their way arrive, in their order");
        GossipNodes x = Groups.fiftyNineOnTheirWay();
        x.start(2, 0);
        x.swap(58);
        CHECK.due("sixty come", x.ticks(1), 60);
        CHECK.due("sixty answers", x.flight(), 60);
        for (int k = 0; k < 60; k++) {
            CHECK.due("SYNCED", x.message(k, 0), 7);
            CHECK.due("in the order of the SYNCs", x.message(k, 2), k == 58 ? 2 : 1);
            CHECK.due("with what was known by then", x.message(k, 6), k < 58 ? 2 : 3);
        }
    }

    private static void threeNewsAtMost() {
        CHECK.sentence("carry at most three of the sender's queue");
        for (int n = 2; n <= 8; n++) {
            GossipNodes x = Groups.startedBy0(n);
            x.ticks(1);
            CHECK.due("queued of " + n, x.node(0, 8), n);
            x.ticks(1);
            CHECK.due("PING of " + n, x.message(0, 0), 1);
            CHECK.due("its news", x.message(0, 6), Math.min(3, n));
            for (int m = 0; m < n; m++) {
                CHECK.due("sendings of " + m, x.queued(0, m), m < 3 ? 3 : 4);
            }
        }
    }

    private static void fewerNewsThanThree() {
        CHECK.sentence("carry at most three of the sender's queue");
        GossipNodes x = Groups.pairOf(3);
        CHECK.due("two", x.message(0, 6), 2);
        x.ticks(17);
        CHECK.due("the queue is empty", x.node(1, 8), 0);
        x.start(2, 1);
        x.ticks(1);
        CHECK.dueMessage("one", x, Wire.place(x, Wire.PING, 1, 2), new int[] {1, 1, 2, 3, 1, 2}, 2, 1, 0);
        CHECK.dueMessage("none", x, Wire.place(x, Wire.PING, 0, 1), new int[] {1, 0, 1, 3, 0, 1});
        CHECK.due("an empty queue stays so", x.node(0, 8), 0);
    }

    private static void mostSendingsFirst() {
        CHECK.sentence("those with the most sendings left, of the same the lower node first");
        GossipNodes x = Groups.startedBy0(4);
        x.ticks(2);
        CHECK.dueMessage("all the same: the lower ones", x, 0, new int[] {1, 0, 1, 1, 0, 1}, 0, 1, 0, 1, 1, 0, 2, 1, 0);
        // 3 has one sending more than 0, 1 and 2; then 2 has one more than the others.
        x.ticks(1);
        int first = Wire.place(x, Wire.ACK, 0, 1);
        CHECK.dueMessage("the highest first", x, first, new int[] {2, 0, 1, 1, 1, 0}, 3, 1, 0, 0, 1, 0, 1, 1, 0);
        int second = Wire.place(x, Wire.ACK, 0, 2);
        CHECK.dueMessage("then the rest", x, second, new int[] {2, 0, 2, 1, 2, 0}, 2, 1, 0, 3, 1, 0, 0, 1, 0);
    }

    private static void newsWithNoSendings() {
        CHECK.sentence("these have one sending less then, and go from the queue with none");
        GossipNodes x = Groups.pairOf(2);
        int[] left = {3, 2, 2, 2, 2, 2, 2, 2, 2, 1, 0, 0};
        for (int i = 0; i < left.length; i++) {
            CHECK.due("sendings at " + x.now(), x.queued(0, 0), left[i]);
            CHECK.due("sendings of the other one at " + x.now(), x.queued(0, 1), left[i]);
            CHECK.due("in the queue at " + x.now(), x.node(0, 8), left[i] == 0 ? 0 : 2);
            x.ticks(1);
        }
        x.ticks(6);
        CHECK.due("PING", x.message(0, 0), 1);
        CHECK.due("carries none", x.message(0, 6), 0);
        CHECK.due("not below none", x.queued(0, 0), 0);
    }

    private static void syncTakesNoSendings() {
        CHECK.sentence("6 SYNC and 7 SYNCED carry the sender's whole table, by rising nodes.");
        GossipNodes x = new GossipNodes(8);
        x.start(7, 0);
        CHECK.due("SYNC", x.queued(7, 7), 4);
        x.start(0, 0);
        x.ticks(1);
        CHECK.due("SYNCED, its own", x.queued(0, 0), 4);
        CHECK.due("SYNCED, the other", x.queued(0, 7), 4);
    }

    private static void syncCarriesTheWholeTable() {
        CHECK.sentence("6 SYNC and 7 SYNCED carry the sender's whole table, by rising nodes.");
        GossipNodes x = new GossipNodes(8);
        x.start(5, 5);
        for (int node : new int[] {7, 2, 0, 6, 1, 4, 3}) {
            x.start(node, 5);
        }
        x.ticks(1);
        CHECK.dueMessage("two", x, 0, new int[] {7, 5, 7, 0, 0, 0}, 5, 1, 0, 7, 1, 0);
        CHECK.dueMessage("three", x, 1, new int[] {7, 5, 2, 0, 0, 0}, 2, 1, 0, 5, 1, 0, 7, 1, 0);
        CHECK.dueMessage("eight", x, 6, new int[] {7, 5, 3, 0, 0, 0},
                0, 1, 0, 1, 1, 0, 2, 1, 0, 3, 1, 0, 4, 1, 0, 5, 1, 0, 6, 1, 0, 7, 1, 0);
        GossipNodes y = Groups.suspectingPairOf(3);
        y.start(2, 0);
        y.ticks(1);
        CHECK.dueMessage("a SUSPECT too", y, 0, new int[] {7, 0, 2, 0, 0, 0}, 0, 1, 0, 1, 2, 0, 2, 1, 0);
        GossipNodes z = Groups.suspectingPairOf(3);
        z.ticks(18);
        Wire.lose(z, Wire.ANY, Wire.ANY, Wire.ANY);
        z.start(2, 0);
        z.ticks(1);
        CHECK.dueMessage("a DEAD one too", z, 0, new int[] {7, 0, 2, 0, 0, 0}, 0, 1, 0, 1, 3, 0, 2, 1, 0);
    }

    private static void sentInATickArrivesInTheNext() {
        CHECK.sentence("Then all messages that were on their way arrive");
        GossipNodes x = Groups.startedBy0(2);
        CHECK.due("the SYNC alone", x.ticks(1), 1);
        CHECK.due("its answer is on its way", x.flight(), 1);
        CHECK.due("and has not come", x.view(1, 0, 0), 0);
        CHECK.due("the SYNCED alone, no PING of this tick", x.ticks(1), 1);
        CHECK.due("now it has come", x.view(1, 0, 0), 1);
        CHECK.due("the PINGs are on their way", x.flight(), 2);
    }

    private static void pingIsAnsweredToItsSender() {
        CHECK.sentence("an ACK goes to the sender, with number, origin and target of the PING");
        GossipNodes x = Groups.relayAtSix();
        CHECK.due("the PING of the relay", x.ticks(1), 1);
        int ack = Wire.place(x, Wire.ACK, 1, 2);
        int[] head = {2, 1, 2, 1, 0, 1};
        for (int what = 0; what < head.length; what++) {
            CHECK.due("to the relay: message(" + ack + ", " + what + ")", x.message(ack, what), head[what]);
        }
        CHECK.due("none to the origin", Wire.place(x, Wire.ACK, 1, 0), -1);
    }

    private static void ackWithoutProbe() {
        CHECK.sentence("if its number is that of the probe that goes on, this is ANSWERED");
        GossipNodes x = Groups.pairOf(2);
        x.ticks(1);
        x.crash(0);
        x.start(0, 0);
        CHECK.due("an ACK for each", x.ticks(1), 2);
        CHECK.dueProbe("none goes on", x, 0, 0, -1, 0, 0, 0, 1);
        CHECK.dueProbe("that of 1 is answered", x, 1, 0, 0, 2, 1, 1, 0);
        CHECK.due("and nothing is sent", x.flight(), 0);
    }

    /** The relay of the second probe answers when the restarted node makes its first one. */
    private static void ackOfAnotherNumber() {
        CHECK.sentence("if its number is that of the probe that goes on, this is ANSWERED");
        GossipNodes x = Groups.startedBy0(3);
        x.ticks(11);
        x.cut(0, 2, true);
        x.ticks(3);
        CHECK.due("ASK of the second probe", x.message(Wire.place(x, Wire.ASK, 0, 1), 3), 2);
        x.crash(0);
        x.start(0, 1);
        x.ticks(2);
        CHECK.dueProbe("first probe", x, 0, 0, 1, 0, 0, 1, 0);
        Wire.lose(x, Wire.PING, 0, Wire.ANY);
        x.ticks(1);
        CHECK.due("ACK of the second one", x.message(Wire.place(x, Wire.ACK, 1, 0), 3), 2);
        x.ticks(1);
        CHECK.dueProbe("not answered", x, 0, 0, 1, 2, 0, 1, 0);
    }

    private static void ackWithoutRelay() {
        CHECK.sentence("elsewhere, if there is a RELAY with its number, origin and target, that is no more");
        GossipNodes x = Groups.relayAtSix();
        x.ticks(1);
        GossipNodes y = Groups.relayAtSix();
        y.ticks(1);
        x.ticks(1);
        CHECK.due("with one: it is no more", x.node(2, 9), 0);
        CHECK.due("and the ACK goes on", Wire.count(x, Wire.ACK, 2, 0), 1);
        int[] head = {2, 2, 0, 1, 0, 1};
        for (int what = 0; what < head.length; what++) {
            CHECK.due("with its parts", x.message(Wire.place(x, Wire.ACK, 2, 0), what), head[what]);
        }
        CHECK.due("but no NACK", Wire.count(x, Wire.NACK, 2, 0), 0);
        y.crash(2);
        y.start(2, 2);
        CHECK.due("without one: it comes", y.ticks(1), 1);
        CHECK.due("but goes no further", Wire.count(y, Wire.ACK, 2, 0), 0);
        CHECK.due("nor a NACK", Wire.count(y, Wire.NACK, 2, 0), 0);
    }

    /** Two relays with the same number and target: an ACK ends only that of its origin. */
    private static void ackOfAnotherOrigin() {
        CHECK.sentence("if there is a RELAY with its number, origin and target, that is no more");
        GossipNodes x = Groups.allAskForSeven();
        CHECK.due("ASKs that stay", Groups.keepAsksToNodeZero(x, 2), 2);
        x.start(7, 7);
        x.ticks(1);
        CHECK.due("two relays", x.node(0, 9), 2);
        CHECK.due("the same number", x.message(0, 3), x.message(1, 3));
        CHECK.due("origin of the first", x.message(0, 4), 1);
        CHECK.due("origin of the second", x.message(1, 4), 2);
        x.drop(0);
        x.ticks(1);
        CHECK.due("ACK for the second", x.message(Wire.place(x, Wire.ACK, 7, 0), 4), 2);
        x.ticks(1);
        CHECK.due("it goes on to its origin", Wire.count(x, Wire.ACK, 0, 2), 1);
        CHECK.due("and not to the other one", Wire.count(x, Wire.ACK, 0, 1), 0);
        CHECK.due("the other one has a NACK", Wire.count(x, Wire.NACK, 0, 1), 1);
        CHECK.due("as its relay alone came to its end", Wire.count(x, Wire.NACK, 0, 2), 0);
    }

    private static void threeRelays() {
        CHECK.sentence("if there are less than four RELAYS, one is noted, with age 0");
        GossipNodes x = Groups.allAskForSeven();
        CHECK.due("ASKs that stay", Groups.keepAsksToNodeZero(x, 3), 3);
        CHECK.due("three come", x.ticks(1), 3);
        CHECK.due("three are noted", x.node(0, 9), 3);
        CHECK.due("three PINGs", Wire.count(x, Wire.PING, 0, 7), 3);
    }

    private static void fourRelays() {
        CHECK.sentence("if there are less than four RELAYS, one is noted, with age 0");
        GossipNodes x = Groups.allAskForSeven();
        CHECK.due("ASKs that stay", Groups.keepAsksToNodeZero(x, 4), 4);
        CHECK.due("four come", x.ticks(1), 4);
        CHECK.due("four are noted", x.node(0, 9), 4);
        CHECK.due("four PINGs", Wire.count(x, Wire.PING, 0, 7), 4);
    }

    private static void fiveAskAndFourAreNoted() {
        CHECK.sentence("if there are less than four RELAYS, one is noted, with age 0");
        GossipNodes x = Groups.allAskForSeven();
        CHECK.due("ASKs that stay", Groups.keepAsksToNodeZero(x, 5), 5);
        CHECK.due("five come", x.ticks(1), 5);
        CHECK.due("four are noted", x.node(0, 9), 4);
        CHECK.due("four PINGs", Wire.count(x, Wire.PING, 0, 7), 4);
        for (int k = 0; k < 4; k++) {
            CHECK.due("those of the first four", x.message(k, 4), k + 1);
        }
        x.ticks(2);
        CHECK.due("four NACKs", Wire.count(x, Wire.NACK, 0, Wire.ANY), 4);
        CHECK.due("the fifth has none", Wire.count(x, Wire.NACK, 0, 5), 0);
    }

    private static void relaysHaveRoomAgain() {
        CHECK.sentence("if there are less than four RELAYS, one is noted, with age 0");
        GossipNodes x = Groups.allAskForSeven();
        CHECK.due("ASKs that stay", Groups.keepAsksToNodeZero(x, 6), 6);
        x.ticks(1);
        CHECK.due("full", x.node(0, 9), 4);
        x.ticks(2);
        CHECK.due("empty", x.node(0, 9), 0);
        // Behind 6 come 7, which is soon DEAD, and 0: whoever probes 6 asks 0.
        x.crash(6);
        int most = 0;
        for (int t = 0; t < 100; t++) {
            x.ticks(1);
            most = Math.max(most, x.node(0, 9));
        }
        CHECK.due("noted again", most > 0, true);
    }

    /** The NACK of a probe before the crash comes when none goes on, and counts for none. */
    private static void nackWithoutProbe() {
        CHECK.sentence("NACK: if its number is that of the probe that goes on, one NACK more came.");
        GossipNodes x = Groups.relayAtSix();
        x.cut(1, 2, true);
        x.ticks(2);
        CHECK.due("NACK", x.message(0, 0), 4);
        x.crash(0);
        x.start(0, 2);
        CHECK.due("NACK and SYNC", x.ticks(1), 2);
        CHECK.dueProbe("none goes on", x, 0, 0, -1, 0, 0, 0, 1);
        x.ticks(1);
        CHECK.dueProbe("probe 1 again", x, 0, 0, 1, 0, 0, 1, 0);
        x.ticks(3);
        Wire.lose(x, Wire.ASK, 0, 2);
        x.ticks(5);
        CHECK.dueProbe("one asked, no NACK of this probe", x, 0, 1, -1, 0, 0, 1, 2);
    }

    /** The NACK of the second probe comes when the restarted node makes its first one. */
    private static void nackOfAnotherNumber() {
        CHECK.sentence("NACK: if its number is that of the probe that goes on, one NACK more came.");
        GossipNodes x = Groups.startedBy0(3);
        x.ticks(11);
        x.crash(2);
        x.ticks(3);
        CHECK.due("ASK of the second probe", x.message(Wire.place(x, Wire.ASK, 0, 1), 3), 2);
        x.crash(0);
        x.start(0, 1);
        x.ticks(2);
        CHECK.dueProbe("first probe", x, 0, 0, 1, 0, 0, 1, 0);
        Wire.lose(x, Wire.PING, 0, Wire.ANY);
        x.ticks(1);
        CHECK.due("NACK of the second one", x.message(Wire.place(x, Wire.NACK, 1, 0), 3), 2);
        x.ticks(2);
        CHECK.due("one is asked", Wire.count(x, Wire.ASK, 0, Wire.ANY), 1);
        x.ticks(5);
        CHECK.dueProbe("and sent no NACK of this probe", x, 0, 1, -1, 0, 0, 1, 2);
    }

    /** Two nodes ask one another with the same number; the NACKs of both are lost. */
    private static void askIsNoNack() {
        CHECK.sentence("NACK: if its number is that of the probe that goes on, one NACK more came.");
        GossipNodes x = Groups.startedBy0(3);
        x.ticks(2);
        x.crash(2);
        x.ticks(12);
        CHECK.due("0 asks 1", x.message(Wire.place(x, Wire.ASK, 0, 1), 3), 2);
        CHECK.due("1 asks 0", x.message(Wire.place(x, Wire.ASK, 1, 0), 3), 2);
        x.ticks(3);
        CHECK.due("two NACKs", Wire.count(x, Wire.NACK, Wire.ANY, Wire.ANY), 2);
        Wire.lose(x, Wire.NACK, Wire.ANY, Wire.ANY);
        x.ticks(2);
        CHECK.dueProbe("one asked, no NACK", x, 0, 1, -1, 0, 0, 2, 2);
        CHECK.dueProbe("one asked, no NACK", x, 1, 1, -1, 0, 0, 2, 2);
    }

    private static void otherKindsAreNotAnswered() {
        CHECK.sentence("SYNC: SYNCED goes to the sender.");
        GossipNodes x = Groups.startedBy0(2);
        x.ticks(1);
        x.crash(0);
        CHECK.due("a SYNCED alone", x.flight(), 1);
        x.ticks(1);
        Wire.lose(x, Wire.PING, Wire.ANY, Wire.ANY);
        CHECK.due("is not answered", x.flight(), 0);
        GossipNodes y = Groups.pairOf(2);
        y.ticks(1);
        CHECK.due("two ACKs", Wire.count(y, Wire.ACK, Wire.ANY, Wire.ANY), 2);
        CHECK.due("come", y.ticks(1), 2);
        CHECK.due("and are not answered", y.flight(), 0);
        y.leave(1);
        CHECK.due("a GOSSIP", y.message(0, 0), 5);
        CHECK.due("comes", y.ticks(1), 1);
        CHECK.due("and is not answered", y.flight(), 0);
        GossipNodes z = Groups.relayAtSix();
        z.cut(1, 2, true);
        z.ticks(2);
        CHECK.due("a NACK", z.message(0, 0), 4);
        CHECK.due("comes", z.ticks(1), 1);
        CHECK.due("and is not answered", z.flight(), 0);
    }

    private static void numberOfGossipIsNothing() {
        CHECK.sentence("(number, origin and target of SYNC, SYNCED, GOSSIP are 0)");
        GossipNodes x = new GossipNodes(8);
        x.start(7, 7);
        x.start(6, 7);
        CHECK.dueMessage("SYNC", x, 0, new int[] {6, 6, 7, 0, 0, 0}, 6, 1, 0);
        x.ticks(1);
        CHECK.dueMessage("SYNCED", x, 0, new int[] {7, 7, 6, 0, 0, 0}, 6, 1, 0, 7, 1, 0);
        x.leave(7);
        CHECK.dueMessage("GOSSIP", x, 1, new int[] {5, 7, 6, 0, 0, 0}, 6, 1, 0, 7, 3, 0);
    }
}
