/** Promise 13: node; how probes, relays, scores and syncs go on. */
public final class ProbeTest {
    private static final Check CHECK = new Check("ProbeTest");

    public static void main(String[] args) {
        nodeIsRefused();
        answeredProbe();
        probesWithoutHelp();
        othersAreAsked();
        relayGivesUp();
        lostNackCosts();
        scoreFallsWhenAnswered();
        staleAckIsNothing();
        oldNumberIsNothing();
        moreNacksThanAsked();
        nobodyHearsNodeZero();
        twoAreAsked();
        fourRelaysAtMost();
        probesGoInTheRound();
        syncsGoInTheRound();
        CHECK.end();
    }

    private static void nodeIsRefused() {
        GossipNodes x = new GossipNodes(2);
        for (int what = -1; what <= 10; what++) {
            int none = what < 0 || what > 9 ? -1 : 0;
            CHECK.due("does not run, what " + what, x.node(1, what), none);
            CHECK.due("node -1", x.node(-1, what), -1);
            CHECK.due("node 2", x.node(2, what), -1);
        }
        x.start(1, 1);
        CHECK.due("runs", x.node(1, 0), 1);
        CHECK.due("what -1", x.node(1, -1), -1);
        CHECK.due("what 10", x.node(1, 10), -1);
        CHECK.due("what far", x.node(1, Integer.MAX_VALUE), -1);
        x.crash(1);
        for (int what = 0; what <= 9; what++) {
            CHECK.due("does not run any more, what " + what, x.node(1, what), 0);
        }
    }

    private static void answeredProbe() {
        GossipNodes x = Groups.startedBy0(2);
        CHECK.dueProbe("new", x, 0, 0, -1, 0, 0, 0, 2);
        x.ticks(1);
        CHECK.dueProbe("rests", x, 0, 0, -1, 0, 0, 0, 1);
        x.ticks(1);
        CHECK.dueProbe("begins", x, 0, 0, 1, 0, 0, 1, 0);
        x.ticks(1);
        CHECK.dueProbe("goes on", x, 0, 0, 1, 1, 0, 1, 0);
        x.ticks(1);
        CHECK.dueProbe("is answered", x, 0, 0, 1, 2, 1, 1, 0);
        x.ticks(5);
        CHECK.dueProbe("waits for its end", x, 0, 0, 1, 7, 1, 1, 0);
        CHECK.due("nobody was asked", x.flight(), 0);
        x.ticks(1);
        CHECK.dueProbe("ends", x, 0, 0, -1, 0, 0, 1, 1);
        x.ticks(1);
        CHECK.dueProbe("begins again", x, 0, 0, 1, 0, 0, 2, 0);
    }

    private static void probesWithoutHelp() {
        GossipNodes x = Groups.startedBy0(2);
        x.ticks(2);
        x.crash(1);
        x.ticks(8);
        CHECK.dueProbe("unanswered", x, 0, 1, -1, 0, 0, 1, 2);
        x.ticks(2);
        CHECK.dueProbe("a suspect is probed", x, 0, 1, 1, 0, 0, 2, 0);
        x.ticks(8);
        CHECK.dueProbe("unanswered", x, 0, 2, -1, 0, 0, 2, 3);
        CHECK.due("no SYNC to a suspect", x.flight(), 0);
        x.ticks(3);
        CHECK.dueProbe("third", x, 0, 2, 1, 0, 0, 3, 0);
        x.ticks(8);
        CHECK.dueProbe("the target died meanwhile", x, 0, 3, -1, 0, 0, 3, 4);
        CHECK.due("and stays dead", x.view(0, 1, 0), 3);
        x.ticks(4);
        CHECK.dueProbe("there is none to probe", x, 0, 3, -1, 0, 0, 3, 3);
        x.ticks(2);
        CHECK.dueProbe("rests", x, 0, 3, -1, 0, 0, 3, 1);
        x.ticks(1);
        CHECK.dueProbe("rests again", x, 0, 3, -1, 0, 0, 3, 3);
        CHECK.due("sends nothing", x.flight(), 0);
    }

    private static GossipNodes askedAtFive() {
        GossipNodes x = Groups.startedBy0(3);
        x.ticks(2);
        x.cut(0, 1, true);
        CHECK.due("only the PING of 2", x.ticks(1), 1);
        CHECK.due("only the ACK of 0", x.ticks(1), 1);
        CHECK.due("nothing", x.ticks(1), 0);
        return x;
    }

    private static void othersAreAsked() {
        GossipNodes x = askedAtFive();
        CHECK.due("one is asked, and by 0 alone", x.flight(), 1);
        CHECK.dueMessage("ASK", x, 0, new int[] {3, 0, 2, 1, 0, 1}, 0, 1, 0, 1, 1, 0, 2, 1, 0);
        CHECK.due("no relay yet", x.node(2, 9), 0);
        x.ticks(1);
        CHECK.due("a relay", x.node(2, 9), 1);
        CHECK.due("its PING", x.message(0, 0), 1);
        CHECK.dueMessage("PING for 0", x, 0, new int[] {1, 2, 1, 1, 0, 1}, 0, 1, 0, 1, 1, 0, 2, 1, 0);
        x.ticks(1);
        CHECK.due("ACK to the relay", x.message(0, 2), 2);
        CHECK.due("with the origin", x.message(0, 4), 0);
        x.ticks(1);
        CHECK.due("the relay is no more", x.node(2, 9), 0);
        CHECK.due("one goes on", x.flight(), 1);
        int[] ack = {2, 2, 0, 1, 0, 1};
        for (int what = 0; what < ack.length; what++) {
            CHECK.due("ACK to the origin", x.message(0, what), ack[what]);
        }
        CHECK.dueProbe("before", x, 0, 0, 1, 6, 0, 1, 0);
        x.ticks(1);
        CHECK.dueProbe("answered", x, 0, 0, 1, 7, 1, 1, 0);
        x.ticks(1);
        CHECK.dueProbe("ended", x, 0, 0, -1, 0, 0, 1, 1);
        CHECK.due("not suspected", x.view(0, 1, 0), 1);
        CHECK.dueProbe("1 knew nobody to ask", x, 1, 1, -1, 0, 0, 1, 2);
        CHECK.due("and suspects", x.view(1, 0, 0), 2);
    }

    private static GossipNodes nackAtEight() {
        GossipNodes x = askedAtFive();
        x.ticks(1);
        x.cut(1, 2, true);
        CHECK.due("the PING of the relay is lost", x.ticks(1), 0);
        CHECK.due("the relay waits", x.node(2, 9), 1);
        CHECK.due("nothing on its way", x.flight(), 0);
        x.ticks(1);
        CHECK.due("the relay is no more", x.node(2, 9), 0);
        return x;
    }

    private static void relayGivesUp() {
        GossipNodes x = nackAtEight();
        int[] nack = {4, 2, 0, 1, 0, 1};
        for (int what = 0; what < nack.length; what++) {
            CHECK.due("NACK", x.message(0, what), nack[what]);
        }
        x.ticks(2);
        CHECK.dueProbe("who asked and got a NACK is not to blame", x, 0, 0, -1, 0, 0, 1, 1);
        CHECK.due("but the target is suspected", x.view(0, 1, 0), 2);
        CHECK.due("by it alone", x.view(0, 1, 3), 1);
    }

    private static void lostNackCosts() {
        GossipNodes x = nackAtEight();
        x.drop(0);
        x.ticks(2);
        CHECK.dueProbe("one asked, no NACK", x, 0, 1, -1, 0, 0, 1, 2);
    }

    private static void scoreFallsWhenAnswered() {
        GossipNodes x = Groups.startedBy0(2);
        x.ticks(2);
        x.drop(0);
        x.ticks(8);
        CHECK.due("lost PING", x.node(0, 2), 1);
        CHECK.due("REST is one more", x.node(0, 7), 2);
        CHECK.due("the other was answered", x.node(1, 2), 0);
        x.ticks(2);
        CHECK.dueProbe("probes again", x, 0, 1, 1, 0, 0, 2, 0);
        x.ticks(8);
        CHECK.dueProbe("answered", x, 0, 0, -1, 0, 0, 2, 1);
    }

    /** The ACK of a probe before a crash has another number than the probe that goes on. */
    private static void staleAckIsNothing() {
        GossipNodes x = Groups.startedBy0(2);
        x.ticks(12);
        CHECK.dueMessage("ACK of the second probe", x, 0, new int[] {2, 1, 0, 2, 0, 1}, 0, 1, 0, 1, 1, 0);
        x.crash(0);
        x.start(0, 1);
        CHECK.due("ACKs and a SYNC", x.ticks(1), 3);
        CHECK.due("no probe goes on", x.node(0, 5), 0);
        x.ticks(1);
        CHECK.dueProbe("first probe", x, 0, 0, 1, 0, 0, 1, 0);
    }

    /** A relay still answers for the second probe when the restarted node makes its first one. */
    private static void oldNumberIsNothing() {
        GossipNodes x = Groups.startedBy0(3);
        x.ticks(11);
        CHECK.dueProbe("second probe", x, 0, 0, 2, 0, 0, 2, 0);
        x.cut(0, 2, true);
        x.ticks(3);
        int ask = Wire.place(x, Wire.ASK, 0, Wire.ANY);
        CHECK.due("ASK to 1", x.message(ask, 2), 1);
        CHECK.due("of the second probe", x.message(ask, 3), 2);
        x.crash(0);
        x.start(0, 1);
        x.ticks(2);
        CHECK.dueProbe("first probe", x, 0, 0, 1, 0, 0, 1, 0);
        CHECK.due("its PING is lost", x.drop(Wire.place(x, Wire.PING, 0, Wire.ANY)), true);
        x.ticks(1);
        int ack = Wire.place(x, Wire.ACK, 1, Wire.ANY);
        CHECK.due("the old ACK goes on to 0", x.message(ack, 2), 0);
        CHECK.due("with its number", x.message(ack, 3), 2);
        x.ticks(1);
        CHECK.dueProbe("not answered by that", x, 0, 0, 1, 2, 0, 1, 0);
    }

    /** NACKs for a probe before the restart, of the same number, come on top of those asked for. */
    private static void moreNacksThanAsked() {
        GossipNodes x = Groups.startedBy0(4);
        x.ticks(2);
        Wire.cutFromAll(x, 1, 4, true);
        x.ticks(3);
        CHECK.due("0 asks", Wire.place(x, Wire.ASK, 0, Wire.ANY) >= 0, true);
        x.crash(0);
        x.start(0, 2);
        x.ticks(2);
        CHECK.dueProbe("first probe again", x, 0, 0, 1, 0, 0, 1, 0);
        x.ticks(1);
        CHECK.due("old NACK of 2", x.message(Wire.place(x, Wire.NACK, 2, Wire.ANY), 2), 0);
        CHECK.due("old NACK of 3", x.message(Wire.place(x, Wire.NACK, 3, Wire.ANY), 2), 0);
        x.ticks(2);
        CHECK.due("0 asks again", Wire.place(x, Wire.ASK, 0, Wire.ANY) >= 0, true);
        x.ticks(3);
        CHECK.due("new NACK of 2", x.message(Wire.place(x, Wire.NACK, 2, Wire.ANY), 2), 0);
        CHECK.due("new NACK of 3", x.message(Wire.place(x, Wire.NACK, 3, Wire.ANY), 2), 0);
        x.ticks(2);
        CHECK.dueProbe("the score does not grow, and does not fall", x, 0, 0, -1, 0, 0, 1, 1);
        CHECK.due("suspected", x.view(0, 1, 0), 2);
    }

    private static void nobodyHearsNodeZero() {
        GossipNodes x = Groups.startedBy0(4);
        x.ticks(2);
        Wire.cutFromAll(x, 0, 4, true);
        x.ticks(8);
        CHECK.dueProbe("two asked", x, 0, 2, -1, 0, 0, 1, 3);
        x.ticks(3);
        CHECK.dueProbe("second probe", x, 0, 2, 2, 0, 0, 2, 0);
        x.ticks(3);
        int ask = Wire.place(x, Wire.ASK, 0, Wire.ANY);
        CHECK.due("a suspect is not asked", x.message(ask, 2), 3);
        x.ticks(5);
        CHECK.dueProbe("one asked", x, 0, 3, -1, 0, 0, 2, 4);
        x.ticks(12);
        CHECK.dueProbe("none to ask", x, 0, 4, -1, 0, 0, 3, 5);
        CHECK.due("the first is dead", x.view(0, 1, 0), 3);
        x.ticks(5);
        CHECK.dueProbe("the dead one is passed over", x, 0, 4, 2, 0, 0, 4, 0);
        x.ticks(8);
        CHECK.dueProbe("not above 4", x, 0, 4, -1, 0, 0, 4, 5);
    }

    private static void twoAreAsked() {
        GossipNodes x = Groups.startedBy0(6);
        x.ticks(2);
        Wire.cutFromAll(x, 0, 6, true);
        x.ticks(3);
        int[] asked = {2, 3};
        for (int m : asked) {
            int ask = Wire.place(x, Wire.ASK, 0, Wire.ANY);
            CHECK.due("asked", x.message(ask, 2), m);
            CHECK.due("for target 1", x.message(ask, 5), 1);
            x.drop(ask);
        }
        CHECK.due("no third one", Wire.place(x, Wire.ASK, 0, Wire.ANY), -1);
        x.ticks(5);
        CHECK.dueProbe("neither answered", x, 0, 2, -1, 0, 0, 1, 3);
    }

    /** Seven nodes probe node 7 at once, and six of them ask node 0. */
    private static void fourRelaysAtMost() {
        GossipNodes x = Groups.startedBy0(8);
        x.ticks(60);
        x.crash(7);
        x.ticks(62);
        CHECK.due("each asks two", x.flight(), 14);
        x.ticks(1);
        int[] relays = {4, 4, 2, 0, 0, 0, 0};
        for (int i = 0; i < 7; i++) {
            CHECK.due("relays of " + i, x.node(i, 9), relays[i]);
        }
        CHECK.due("a PING of each relay", x.flight(), 10);
        x.ticks(2);
        int[] nacks = {0, 1, 0, 2, 0, 3, 0, 4, 1, 0, 1, 2, 1, 3, 1, 4, 2, 0, 2, 1};
        for (int k = 0; k < 10; k++) {
            CHECK.due("NACK", x.message(k, 0), 4);
            CHECK.due("NACK from", x.message(k, 1), nacks[2 * k]);
            CHECK.due("NACK to", x.message(k, 2), nacks[2 * k + 1]);
        }
        x.ticks(2);
        int[] scores = {0, 0, 0, 0, 0, 2, 2};
        for (int i = 0; i < 7; i++) {
            CHECK.due("score of " + i, x.node(i, 2), scores[i]);
        }
    }

    private static void probesGoInTheRound() {
        GossipNodes x = Groups.startedBy0(4);
        int[] targets = {1, 2, 3, 1, 2};
        x.ticks(2);
        for (int i = 0; i < targets.length; i++) {
            CHECK.due("probe " + i, x.node(0, 3), targets[i]);
            CHECK.due("its number", x.node(0, 6), i + 1);
            x.ticks(9);
        }
    }

    private static void syncsGoInTheRound() {
        GossipNodes x = Groups.startedBy0(4);
        x.ticks(7);
        int[] targets = {1, 2, 3, 1};
        for (int i = 0; i < targets.length; i++) {
            x.ticks(i == 0 ? 13 : 20);
            CHECK.due("SYNC of 0 at " + x.now(), x.message(Wire.place(x, Wire.SYNC, 0, Wire.ANY), 2), targets[i]);
        }
        GossipNodes y = new GossipNodes(2);
        y.start(0, 0);
        y.ticks(20);
        CHECK.due("alone, none to sync with", y.flight(), 0);
    }
}
