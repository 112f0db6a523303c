/** The edges under "Terms" of the timer: relays, suspicions, probes, syncs, and the round of nodes. */
public final class TimerEdgesTest {
    private static final Check CHECK = new Check("TimerEdgesTest");

    public static void main(String[] args) {
        timersByRisingNodes();
        timersOfRunningNodesAlone();
        relayEndsAtThree();
        relaysInTheirOrder();
        suspicionOfOne();
        suspicionOfTheFirstAndTheLast();
        suspicionOfTwo();
        suspicionOfThree();
        suspicionOfMore();
        suspicionThatIsOverdue();
        restFallsToZero();
        noneToProbe();
        noneToProbeAnyMore();
        oneComesWhileItRests();
        roundOfProbes();
        roundOfOne();
        roundPassesOver();
        askedAtThree();
        askedWhenNotAnswered();
        askedInTheRound();
        noneToAsk();
        oneToAsk();
        suspectAndMissingAreNotAsked();
        probeEndsAtEight();
        scoreNotBelowZero();
        scoreFalls();
        scoreGrowsByThoseWithoutNack();
        scoreGrowsByOneIfNoneWasAsked();
        scoreNotAboveFour();
        targetSuspectStays();
        targetDeadStays();
        restIsOneMoreThanTheScore();
        syncEveryTwentyTicks();
        syncOfOneThatBeganLater();
        roundOfSyncs();
        syncAtFirstBehindItself();
        syncPassesOver();
        noneToSyncWith();
        CHECK.end();
    }

    private static void timersByRisingNodes() {
        CHECK.sentence("Then the TIMERS of the running nodes, by rising nodes.");
        GossipNodes x = new GossipNodes(8);
        for (int node : new int[] {7, 5, 0, 3}) {
            x.start(node, 7);
        }
        x.ticks(2);
        CHECK.due("a PING of each", x.flight(), 4);
        int[] senders = {0, 3, 5, 7};
        for (int k = 0; k < 4; k++) {
            CHECK.due("PING", x.message(k, 0), 1);
            CHECK.due("sender", x.message(k, 1), senders[k]);
        }
    }

    private static void timersOfRunningNodesAlone() {
        CHECK.sentence("Then the TIMERS of the running nodes, by rising nodes.");
        GossipNodes x = Groups.startedBy0(2);
        x.ticks(1);
        x.crash(0);
        x.ticks(1);
        CHECK.due("the PING of 1 alone", x.flight(), 1);
        CHECK.due("its sender", x.message(0, 1), 1);
        x.crash(1);
        CHECK.due("none runs", x.ticks(100), 0);
        CHECK.due("nothing is sent", x.flight(), 0);
    }

    private static void relayEndsAtThree() {
        CHECK.sentence("Relays, in their order, are one older; at 3 one is no more");
        GossipNodes x = Groups.relayAtSix();
        x.cut(1, 2, true);
        CHECK.due("at one", x.node(2, 9), 1);
        x.ticks(1);
        CHECK.due("at two", x.node(2, 9), 1);
        CHECK.due("no NACK yet", Wire.count(x, Wire.NACK, 2, 0), 0);
        x.ticks(1);
        CHECK.due("at three", x.node(2, 9), 0);
        int nack = Wire.place(x, Wire.NACK, 2, 0);
        CHECK.due("number", x.message(nack, 3), 1);
        CHECK.due("origin", x.message(nack, 4), 0);
        CHECK.due("target", x.message(nack, 5), 1);
        x.ticks(1);
        CHECK.due("but one NACK", Wire.count(x, Wire.NACK, 2, 0), 0);
    }

    private static void relaysInTheirOrder() {
        CHECK.sentence("Relays, in their order, are one older; at 3 one is no more");
        GossipNodes x = Groups.allAskForSeven();
        Groups.keepAsksToNodeZero(x, 4);
        x.swap(0);
        x.swap(2);
        x.ticks(3);
        CHECK.due("all end", x.node(0, 9), 0);
        int[] origins = {2, 1, 4, 3};
        int found = 0;
        for (int k = 0; k < x.flight(); k++) {
            if (x.message(k, 0) == Wire.NACK) {
                CHECK.due("NACK " + found, x.message(k, 2), origins[found]);
                found++;
            }
        }
        CHECK.due("NACKs", found, 4);
    }

    private static void suspicionOfOne() {
        CHECK.sentence("and it is since 24 - 6 * n ticks or more");
        GossipNodes x = Groups.suspectingPairOf(2);
        x.ticks(17);
        CHECK.dueEntry("17 ticks", x, 0, 1, 2, 0, 10, 1);
        x.ticks(1);
        CHECK.dueEntry("18 ticks", x, 0, 1, 3, 0, 28, 0);
        CHECK.due("announced", x.queued(0, 1), 4);
    }

    private static void suspicionOfTheFirstAndTheLast() {
        CHECK.sentence("For each other node, rising, with a SUSPECT entry");
        GossipNodes x = Groups.pairOf(2);
        x.crash(0);
        x.ticks(25);
        CHECK.dueEntry("the first", x, 1, 0, 2, 0, 10, 1);
        x.ticks(1);
        CHECK.dueEntry("the first", x, 1, 0, 3, 0, 28, 0);
        GossipNodes y = new GossipNodes(8);
        y.start(0, 0);
        y.start(7, 0);
        y.ticks(2);
        y.crash(7);
        y.ticks(25);
        CHECK.dueEntry("the last", y, 0, 7, 2, 0, 10, 1);
        y.ticks(1);
        CHECK.dueEntry("the last", y, 0, 7, 3, 0, 28, 0);
        GossipNodes z = Groups.startedBy0(3);
        z.ticks(2);
        Wire.cutFromAll(z, 0, 3, true);
        z.ticks(23);
        CHECK.dueEntry("the lower of two", z, 0, 1, 2, 0, 10, 1);
        CHECK.dueEntry("the higher of two", z, 0, 2, 2, 0, 20, 1);
        z.ticks(3);
        CHECK.dueEntry("the lower is due", z, 0, 1, 3, 0, 28, 0);
        CHECK.dueEntry("the higher is not", z, 0, 2, 2, 0, 20, 1);
        z.ticks(10);
        CHECK.dueEntry("the higher is due", z, 0, 2, 3, 0, 38, 0);
        CHECK.dueEntry("itself it never suspects", z, 0, 0, 1, 0, 0, 0);
    }

    /**
     * Node 0 suspects 1 since tick 10; others start by 0, learn of it two ticks later and confirm it to 0
     * with their PINGs in the third.
     */
    private static GossipNodes confirmedAt(int tick, int confirmers) {
        GossipNodes x = Groups.suspectingPairOf(8);
        x.ticks(tick - 3 - x.now());
        for (int i = 0; i < confirmers; i++) {
            x.start(2 + i, 0);
        }
        x.ticks(2);
        CHECK.dueEntry("before", x, 0, 1, 2, 0, 10, 1);
        x.ticks(1);
        return x;
    }

    private static void suspicionOfTwo() {
        CHECK.sentence("and it is since 24 - 6 * n ticks or more");
        GossipNodes x = confirmedAt(21, 1);
        CHECK.dueEntry("11 ticks", x, 0, 1, 2, 0, 10, 2);
        x.ticks(1);
        CHECK.dueEntry("12 ticks", x, 0, 1, 3, 0, 22, 0);
    }

    private static void suspicionOfThree() {
        CHECK.sentence("and it is since 24 - 6 * n ticks or more");
        GossipNodes x = confirmedAt(15, 2);
        CHECK.dueEntry("5 ticks", x, 0, 1, 2, 0, 10, 3);
        x.ticks(1);
        CHECK.dueEntry("6 ticks", x, 0, 1, 3, 0, 16, 0);
    }

    private static void suspicionOfMore() {
        CHECK.sentence("(3 counts for any more)");
        for (int others = 3; others <= 6; others++) {
            GossipNodes x = confirmedAt(14, others);
            CHECK.dueEntry("4 ticks", x, 0, 1, 2, 0, 10, 1 + others);
            x.ticks(1);
            CHECK.dueEntry("5 ticks", x, 0, 1, 2, 0, 10, 1 + others);
            x.ticks(1);
            CHECK.dueEntry("6 ticks", x, 0, 1, 3, 0, 16, 0);
        }
    }

    /** In the tick that confirms it, and before the node looks for one to probe. */
    private static void suspicionThatIsOverdue() {
        CHECK.sentence("and it is since 24 - 6 * n ticks or more");
        GossipNodes exact = confirmedAt(22, 1);
        CHECK.dueEntry("12 ticks", exact, 0, 1, 3, 0, 22, 0);
        GossipNodes x = confirmedAt(23, 1);
        CHECK.dueEntry("13 ticks", x, 0, 1, 3, 0, 23, 0);
        CHECK.due("so 2 is probed, not 1", x.node(0, 3), 2);
        GossipNodes y = confirmedAt(18, 2);
        CHECK.dueEntry("8 ticks", y, 0, 1, 3, 0, 18, 0);
    }

    private static void restFallsToZero() {
        CHECK.sentence("when no probe goes on, REST falls by 1; at 0 a probe begins");
        GossipNodes x = Groups.startedBy0(2);
        CHECK.dueProbe("at two", x, 0, 0, -1, 0, 0, 0, 2);
        x.ticks(1);
        CHECK.dueProbe("at one", x, 0, 0, -1, 0, 0, 0, 1);
        CHECK.due("no PING", Wire.count(x, Wire.PING, 0, 1), 0);
        x.ticks(1);
        CHECK.dueProbe("at zero", x, 0, 0, 1, 0, 0, 1, 0);
        CHECK.due("a PING", Wire.count(x, Wire.PING, 0, 1), 1);
        x.ticks(1);
        CHECK.dueProbe("it does not fall while a probe goes on", x, 0, 0, 1, 1, 0, 1, 0);
    }

    private static void noneToProbe() {
        CHECK.sentence("without one REST is 3");
        GossipNodes x = new GossipNodes(8);
        x.start(3, 3);
        int[] rest = {2, 1, 3, 2, 1, 3, 2, 1, 3};
        for (int i = 0; i < rest.length; i++) {
            CHECK.dueProbe("alone", x, 3, 0, -1, 0, 0, 0, rest[i]);
            x.ticks(1);
        }
        CHECK.due("nothing is sent", x.flight(), 0);
    }

    private static void noneToProbeAnyMore() {
        CHECK.sentence("without one REST is 3");
        GossipNodes x = Groups.pairOf(2);
        x.leave(1);
        x.ticks(8);
        CHECK.dueEntry("DEAD", x, 0, 1, 3, 0, 3, 0);
        CHECK.dueProbe("the probe that went on has ended", x, 0, 1, -1, 0, 0, 1, 2);
        x.ticks(2);
        CHECK.dueProbe("a DEAD one is not probed", x, 0, 1, -1, 0, 0, 1, 3);
    }

    private static void oneComesWhileItRests() {
        CHECK.sentence("without one REST is 3");
        GossipNodes x = new GossipNodes(2);
        x.start(0, 0);
        x.ticks(2);
        x.start(1, 0);
        x.ticks(2);
        CHECK.due("known", x.view(0, 1, 0), 1);
        CHECK.dueProbe("but it rests", x, 0, 0, -1, 0, 0, 0, 1);
        x.ticks(1);
        CHECK.dueProbe("until three ticks are over", x, 0, 0, 1, 0, 0, 1, 0);
    }

    /** Each node of four begins again, so that it knows all when it first probes. */
    private static void roundOfProbes() {
        CHECK.sentence("the next one, behind that probed last, in the round of nodes, that is not itself");
        int[][] targets = {{1, 2, 3, 1, 2}, {2, 3, 0, 2, 3}, {3, 0, 1, 3, 0}, {0, 1, 2, 0, 1}};
        for (int node = 0; node < 4; node++) {
            GossipNodes x = Groups.startedBy0(4);
            x.ticks(19);
            x.crash(node);
            x.start(node, (node + 1) % 4);
            x.ticks(2);
            for (int i = 0; i < targets[node].length; i++) {
                CHECK.due("probe " + i + " by " + node, x.node(node, 3), targets[node][i]);
                int ping = Wire.place(x, Wire.PING, node, targets[node][i]);
                CHECK.due("PING " + i + " by " + node, x.message(ping, 3), i + 1);
                x.ticks(9);
            }
        }
    }

    private static void roundOfOne() {
        CHECK.sentence("the next one, behind that probed last, in the round of nodes, that is not itself");
        GossipNodes x = Groups.pairOf(2);
        for (int i = 1; i <= 4; i++) {
            CHECK.dueProbe("0 probes 1", x, 0, 0, 1, 0, 0, i, 0);
            CHECK.dueProbe("1 probes 0", x, 1, 0, 0, 0, 0, i, 0);
            x.ticks(9);
        }
    }

    private static void roundPassesOver() {
        CHECK.sentence("and whose entry is ALIVE or SUSPECT");
        GossipNodes x = new GossipNodes(8);
        x.start(2, 2);
        x.start(6, 2);
        x.ticks(2);
        CHECK.due("missing ones on the way up", x.node(2, 3), 6);
        CHECK.due("missing ones round the end", x.node(6, 3), 2);
        GossipNodes y = Groups.startedBy0(4);
        y.ticks(10);
        y.leave(2);
        y.ticks(1);
        CHECK.due("DEAD", y.view(0, 2, 0), 3);
        CHECK.due("0 has probed 1, and passes over 2", y.node(0, 3), 3);
        GossipNodes z = Groups.suspectingPairOf(2);
        z.ticks(2);
        CHECK.due("a SUSPECT one is probed", z.node(0, 3), 1);
    }

    private static void askedAtThree() {
        CHECK.sentence("at 3, if not answered, an ASK with number, origin and target goes to each");
        GossipNodes x = Groups.startedBy0(4);
        x.ticks(2);
        x.crash(1);
        x.ticks(2);
        CHECK.due("at two", x.node(0, 4), 2);
        CHECK.due("no ASK", Wire.count(x, Wire.ASK, 0, Wire.ANY), 0);
        x.ticks(1);
        CHECK.due("at three", x.node(0, 4), 3);
        CHECK.due("two ASKs", Wire.count(x, Wire.ASK, 0, Wire.ANY), 2);
        int ask = Wire.place(x, Wire.ASK, 0, 3);
        CHECK.due("number", x.message(ask, 3), 1);
        CHECK.due("origin", x.message(ask, 4), 0);
        CHECK.due("target", x.message(ask, 5), 1);
        x.ticks(1);
        CHECK.due("at four", x.node(0, 4), 4);
        CHECK.due("no more ASKs", Wire.count(x, Wire.ASK, 0, Wire.ANY), 0);
    }

    private static void askedWhenNotAnswered() {
        CHECK.sentence("at 3, if not answered, an ASK with number, origin and target goes to each");
        GossipNodes x = Groups.startedBy0(4);
        x.ticks(5);
        CHECK.dueProbe("answered", x, 0, 0, 1, 3, 1, 1, 0);
        CHECK.due("no ASK", Wire.count(x, Wire.ASK, Wire.ANY, Wire.ANY), 0);
    }

    /** Whom node 0 of n asks for its probe of the given number, when its PING is lost; at most two. */
    private static void dueAsked(GossipNodes x, int number, int... asked) {
        x.ticks(2 + 9 * (number - 1) - x.now());
        CHECK.due("number", x.node(0, 6), number);
        Wire.lose(x, Wire.PING, 0, number);
        x.ticks(3);
        CHECK.due("how many are asked for " + number, Wire.count(x, Wire.ASK, 0, Wire.ANY), asked.length);
        int k = Wire.place(x, Wire.ASK, 0, Wire.ANY);
        for (int i = 0; i < asked.length; i++) {
            CHECK.due("asked for " + number, x.message(k + i, 2), asked[i]);
            CHECK.due("kind", x.message(k + i, 0), Wire.ASK);
            CHECK.due("target", x.message(k + i, 5), number);
        }
    }

    private static void askedInTheRound() {
        CHECK.sentence("of the two next nodes behind the target, in the round, that are neither itself nor the target");
        dueAsked(Groups.startedBy0(5), 1, 2, 3);
        dueAsked(Groups.startedBy0(5), 2, 3, 4);
        dueAsked(Groups.startedBy0(5), 3, 4, 1);
        dueAsked(Groups.startedBy0(5), 4, 1, 2);
        dueAsked(Groups.startedBy0(4), 3, 1, 2);
        dueAsked(Groups.startedBy0(3), 2, 1);
    }

    private static void noneToAsk() {
        CHECK.sentence("(or as many as there are)");
        dueAsked(Groups.startedBy0(2), 1);
        dueAsked(Groups.pairOf(8), 1);
    }

    private static void oneToAsk() {
        CHECK.sentence("(or as many as there are)");
        dueAsked(Groups.startedBy0(3), 1, 2);
        GossipNodes x = new GossipNodes(8);
        x.start(0, 0);
        x.start(1, 0);
        x.start(7, 0);
        dueAsked(x, 1, 7);
    }

    private static void suspectAndMissingAreNotAsked() {
        CHECK.sentence("and whose entry is ALIVE (or as many as there are)");
        GossipNodes x = Groups.startedBy0(4);
        x.ticks(2);
        Wire.cutFromAll(x, 0, 4, true);
        x.ticks(8);
        CHECK.due("1 is SUSPECT", x.view(0, 1, 0), 2);
        x.ticks(6);
        CHECK.dueProbe("the probe of 2", x, 0, 2, 2, 3, 0, 2, 0);
        CHECK.due("3 is asked", Wire.count(x, Wire.ASK, 0, 3), 1);
        CHECK.due("1 is not", Wire.count(x, Wire.ASK, 0, 1), 0);
        GossipNodes y = Groups.startedBy0(4);
        y.ticks(2);
        y.leave(3);
        y.ticks(1);
        CHECK.due("3 is DEAD", y.view(0, 3, 0), 3);
        Wire.lose(y, Wire.ACK, 1, 0);
        y.ticks(2);
        CHECK.dueProbe("the probe of 1", y, 0, 0, 1, 3, 0, 1, 0);
        CHECK.due("2 is asked", Wire.count(y, Wire.ASK, 0, 2), 1);
        CHECK.due("3 is not", Wire.count(y, Wire.ASK, 0, 3), 0);
    }

    private static void probeEndsAtEight() {
        CHECK.sentence("At 8 it ends");
        GossipNodes x = Groups.pairOf(2);
        x.drop(0);
        x.ticks(7);
        CHECK.dueProbe("at seven, not answered", x, 0, 0, 1, 7, 0, 1, 0);
        CHECK.dueProbe("at seven, answered", x, 1, 0, 0, 7, 1, 1, 0);
        CHECK.dueEntry("not suspected yet", x, 0, 1, 1, 0, 1, 0);
        x.ticks(1);
        CHECK.dueProbe("not answered", x, 0, 1, -1, 0, 0, 1, 2);
        CHECK.dueProbe("answered", x, 1, 0, -1, 0, 0, 1, 1);
        CHECK.dueEntry("suspected", x, 0, 1, 2, 0, 10, 1);
        CHECK.dueEntry("not suspected", x, 1, 0, 1, 0, 2, 0);
        CHECK.due("announced", x.queued(0, 1), 4);
    }

    private static void scoreNotBelowZero() {
        CHECK.sentence("if answered, the score falls by 1 (not below 0)");
        GossipNodes x = Groups.pairOf(2);
        for (int i = 0; i < 3; i++) {
            CHECK.due("before", x.node(0, 2), 0);
            x.ticks(8);
            CHECK.dueProbe("after", x, 0, 0, -1, 0, 0, 1 + i, 1);
            x.ticks(1);
        }
    }

    /** Cut off until its score is 4; back again, each answered probe takes one. */
    private static void scoreFalls() {
        CHECK.sentence("if answered, the score falls by 1 (not below 0)");
        GossipNodes x = Groups.startedBy0(6);
        x.ticks(2);
        Wire.cutFromAll(x, 0, 6, true);
        x.ticks(19);
        CHECK.dueProbe("two of two probes", x, 0, 4, -1, 0, 0, 2, 5);
        Wire.cutFromAll(x, 0, 6, false);
        x.ticks(5);
        int[] rest = {4, 3, 2, 1, 1};
        for (int i = 0; i < rest.length; i++) {
            // What the others say of node 0 meanwhile is lost, as it would raise the score.
            int probe = x.node(0, 6);
            for (int t = 0; t < 8; t++) {
                loseNewsOfZero(x);
                x.ticks(1);
            }
            CHECK.dueProbe("answered", x, 0, rest[i] - 1, -1, 0, 0, probe, rest[i]);
            for (int t = 0; t < rest[i]; t++) {
                loseNewsOfZero(x);
                x.ticks(1);
            }
        }
    }

    private static void loseNewsOfZero(GossipNodes x) {
        for (int k = x.flight() - 1; k >= 0; k--) {
            if (x.message(k, 2) == 0 && tellsOfZero(x, k)) {
                x.drop(k);
            }
        }
    }

    private static boolean tellsOfZero(GossipNodes x, int k) {
        for (int i = x.message(k, 6) - 1; i >= 0; i--) {
            if (x.message(k, 7 + 3 * i) == 0) {
                return x.message(k, 8 + 3 * i) != 1;
            }
        }
        return false;
    }

    /** Node 1 of n crashes while 0 probes it; of the NACKs to 0 the first ones stay. */
    private static void dueScore(int n, int asked, int nacks, int score) {
        GossipNodes x = Groups.startedBy0(n);
        x.ticks(2);
        x.crash(1);
        x.ticks(3);
        CHECK.due("asked of " + n, Wire.count(x, Wire.ASK, 0, Wire.ANY), asked);
        x.ticks(3);
        CHECK.due("NACKs of " + n, Wire.count(x, Wire.NACK, Wire.ANY, 0), asked);
        Wire.loseBehind(x, nacks, Wire.NACK, Wire.ANY, 0);
        x.ticks(2);
        CHECK.dueProbe(asked + " asked, " + nacks + " NACKs", x, 0, score, -1, 0, 0, 1, 1 + score);
        CHECK.due("suspected all the same", x.view(0, 1, 0), 2);
    }

    private static void scoreGrowsByThoseWithoutNack() {
        CHECK.sentence("otherwise the score grows, by as many as were asked and sent no NACK");
        dueScore(4, 2, 2, 0);
        dueScore(4, 2, 1, 1);
        dueScore(4, 2, 0, 2);
        dueScore(3, 1, 1, 0);
        dueScore(3, 1, 0, 1);
    }

    private static void scoreGrowsByOneIfNoneWasAsked() {
        CHECK.sentence("but by 1 if none was asked");
        dueScore(2, 0, 0, 1);
    }

    /** 1, then 2 more, then 2 more again, which are too many by one. */
    private static void scoreNotAboveFour() {
        CHECK.sentence("but by 1 if none was asked (4 at most)");
        GossipNodes x = Groups.startedBy0(8);
        x.ticks(2);
        x.crash(1);
        x.ticks(6);
        Wire.loseBehind(x, 1, Wire.NACK, Wire.ANY, 0);
        x.ticks(2);
        CHECK.dueProbe("one of two sent a NACK", x, 0, 1, -1, 0, 0, 1, 2);
        Wire.cutFromAll(x, 0, 8, true);
        x.ticks(10);
        CHECK.dueProbe("two more", x, 0, 3, -1, 0, 0, 2, 4);
        x.ticks(12);
        CHECK.dueProbe("not five", x, 0, 4, -1, 0, 0, 3, 5);
        x.ticks(13);
        CHECK.dueProbe("not six", x, 0, 4, -1, 0, 0, 4, 5);
        GossipNodes y = Groups.startedBy0(4);
        y.ticks(2);
        Wire.cutFromAll(y, 0, 4, true);
        y.ticks(31);
        CHECK.dueProbe("none was asked", y, 0, 4, -1, 0, 0, 3, 5);
        y.ticks(13);
        CHECK.dueProbe("none was asked again", y, 0, 4, -1, 0, 0, 4, 5);
    }

    private static void targetSuspectStays() {
        CHECK.sentence("and if the target's entry is ALIVE, it is SUSPECT with the same incarnation");
        GossipNodes x = Groups.suspectingPairOf(2);
        x.ticks(10);
        CHECK.dueProbe("second probe", x, 0, 2, -1, 0, 0, 2, 3);
        CHECK.dueEntry("SUSPECT since the first", x, 0, 1, 2, 0, 10, 1);
        CHECK.due("not announced again", x.queued(0, 1), 3);
        GossipNodes y = Groups.startedBy0(3);
        y.ticks(2);
        y.crash(1);
        y.ticks(10);
        CHECK.dueEntry("learned while probed", y, 2, 1, 2, 0, 12, 1);
        y.ticks(7);
        CHECK.dueProbe("not answered", y, 2, 0, -1, 0, 0, 2, 1);
        CHECK.dueEntry("confirmed by 0 alone", y, 2, 1, 2, 0, 12, 1);
    }

    private static void targetDeadStays() {
        CHECK.sentence("and if the target's entry is ALIVE, it is SUSPECT with the same incarnation");
        GossipNodes x = Groups.suspectingPairOf(2);
        x.ticks(21);
        CHECK.dueProbe("third probe", x, 0, 3, -1, 0, 0, 3, 4);
        CHECK.dueEntry("DEAD while probed", x, 0, 1, 3, 0, 28, 0);
        GossipNodes y = Groups.pairOf(2);
        y.cut(0, 1, true);
        y.ticks(8);
        y.cut(0, 1, false);
        y.ticks(5);
        CHECK.dueEntry("outdone", y, 0, 1, 1, 1, 14, 0);
        y.crash(1);
        y.ticks(40);
        CHECK.due("suspected again and DEAD", y.view(0, 1, 0), 3);
        CHECK.due("with the same incarnation", y.view(0, 1, 1), 1);
    }

    private static void restIsOneMoreThanTheScore() {
        CHECK.sentence("REST is then 1 + the score.");
        GossipNodes x = Groups.startedBy0(4);
        x.ticks(2);
        Wire.cutFromAll(x, 0, 4, true);
        // The score after each probe: two asked, one asked, none asked.
        int[] scores = {2, 3, 4};
        for (int i = 0; i < scores.length; i++) {
            CHECK.due("a probe goes on", x.node(0, 4), 0);
            x.ticks(8);
            CHECK.dueProbe("ended", x, 0, scores[i], -1, 0, 0, i + 1, 1 + scores[i]);
            x.ticks(scores[i]);
            CHECK.dueProbe("the last tick of rest", x, 0, scores[i], -1, 0, 0, i + 1, 1);
            x.ticks(1);
            CHECK.due("the next", x.node(0, 6), i + 2);
        }
    }

    private static void syncEveryTwentyTicks() {
        CHECK.sentence("When the ticks since the node began are a multiple of 20, a SYNC goes to the next node");
        GossipNodes x = Groups.pairOf(2);
        x.ticks(17);
        CHECK.due("19 ticks", Wire.count(x, Wire.SYNC, Wire.ANY, Wire.ANY), 0);
        x.ticks(1);
        CHECK.due("20 ticks", Wire.count(x, Wire.SYNC, Wire.ANY, Wire.ANY), 2);
        x.ticks(1);
        CHECK.due("21 ticks", Wire.count(x, Wire.SYNC, Wire.ANY, Wire.ANY), 0);
        x.ticks(18);
        CHECK.due("39 ticks", Wire.count(x, Wire.SYNC, Wire.ANY, Wire.ANY), 0);
        x.ticks(1);
        CHECK.due("40 ticks", Wire.count(x, Wire.SYNC, Wire.ANY, Wire.ANY), 2);
    }

    private static void syncOfOneThatBeganLater() {
        CHECK.sentence("When the ticks since the node began are a multiple of 20, a SYNC goes to the next node");
        GossipNodes x = new GossipNodes(2);
        x.start(0, 0);
        x.ticks(7);
        x.start(1, 0);
        x.ticks(13);
        CHECK.due("20 of 0", Wire.count(x, Wire.SYNC, 0, 1), 1);
        CHECK.due("13 of 1", Wire.count(x, Wire.SYNC, 1, 0), 0);
        x.ticks(7);
        CHECK.due("20 of 1", Wire.count(x, Wire.SYNC, 1, 0), 1);
        CHECK.due("27 of 0", Wire.count(x, Wire.SYNC, 0, 1), 0);
        x.crash(0);
        x.start(0, 1);
        x.ticks(13);
        CHECK.due("40 since it first began", Wire.count(x, Wire.SYNC, 0, 1), 0);
        x.ticks(7);
        CHECK.due("20 since it began again", Wire.count(x, Wire.SYNC, 0, 1), 1);
    }

    private static void roundOfSyncs() {
        CHECK.sentence("the next node behind that which it synced with last (at first itself), in the round");
        GossipNodes x = Groups.startedBy0(4);
        int[][] targets = {{1, 2, 3, 1}, {2, 3, 0, 2}, {3, 0, 1, 3}, {0, 1, 2, 0}};
        for (int i = 0; i < 4; i++) {
            x.ticks(20);
            for (int node = 0; node < 4; node++) {
                int sync = Wire.place(x, Wire.SYNC, node, Wire.ANY);
                CHECK.due("SYNC " + i + " of " + node, x.message(sync, 2), targets[node][i]);
            }
        }
    }

    /** The SYNC by which a node joins is none of the round: behind node 0 would come 1. */
    private static void syncAtFirstBehindItself() {
        CHECK.sentence("(at first itself)");
        GossipNodes x = Groups.startedBy0(3);
        x.ticks(20);
        CHECK.due("the last begins with the first", x.message(Wire.place(x, Wire.SYNC, 2, Wire.ANY), 2), 0);
        x.crash(2);
        x.start(2, 0);
        x.ticks(20);
        CHECK.due("and so when it began again", x.message(Wire.place(x, Wire.SYNC, 2, Wire.ANY), 2), 0);
    }

    private static void syncPassesOver() {
        CHECK.sentence("in the round, whose entry is ALIVE, not itself");
        GossipNodes x = new GossipNodes(8);
        x.start(2, 2);
        x.start(6, 2);
        x.ticks(20);
        CHECK.due("missing ones on the way up", x.message(Wire.place(x, Wire.SYNC, 2, Wire.ANY), 2), 6);
        CHECK.due("missing ones round the end", x.message(Wire.place(x, Wire.SYNC, 6, Wire.ANY), 2), 2);
        GossipNodes y = Groups.startedBy0(3);
        y.ticks(2);
        y.crash(1);
        y.ticks(18);
        CHECK.due("1 is SUSPECT", y.view(0, 1, 0), 2);
        CHECK.due("a SUSPECT one", y.message(Wire.place(y, Wire.SYNC, 0, Wire.ANY), 2), 2);
        GossipNodes z = Groups.startedBy0(3);
        z.ticks(2);
        z.leave(1);
        z.ticks(18);
        CHECK.due("1 is DEAD", z.view(0, 1, 0), 3);
        CHECK.due("a DEAD one", z.message(Wire.place(z, Wire.SYNC, 0, Wire.ANY), 2), 2);
        z.ticks(20);
        CHECK.due("2 again, the only one", z.message(Wire.place(z, Wire.SYNC, 0, Wire.ANY), 2), 2);
    }

    private static void noneToSyncWith() {
        CHECK.sentence("not itself; if there is one.");
        GossipNodes alone = new GossipNodes(8);
        alone.start(7, 7);
        alone.ticks(20);
        CHECK.due("all are missing", alone.flight(), 0);
        GossipNodes x = Groups.suspectingPairOf(2);
        x.ticks(10);
        CHECK.due("now", x.now(), 20);
        CHECK.due("the other is SUSPECT", x.flight(), 0);
        x.ticks(20);
        CHECK.due("DEAD", x.view(0, 1, 0), 3);
        CHECK.due("the other is DEAD", x.flight(), 0);
    }
}
