/** Promises 12, 14 and 15: view, queued, agreed; how news are learned and suspicions ripen. */
public final class TableTest {
    private static final Check CHECK = new Check("TableTest");

    public static void main(String[] args) {
        viewRefusesAndMisses();
        suspicionOfOneRipensInEighteen();
        suspicionOfTwoRipensInTwelve();
        suspicionOfThreeRipensInSix();
        suspectRefutes();
        restartedNodeOutdoesItsDeath();
        quickRestartIsNotAgreed();
        queueIsSharedOut();
        queuedAnswersNoneElsewhere();
        agreedLooksAtRunningNodes();
        CHECK.end();
    }

    private static void viewRefusesAndMisses() {
        GossipNodes x = new GossipNodes(3);
        x.ticks(5);
        CHECK.due("does not run", x.view(0, 0, 0), -1);
        x.start(0, 0);
        CHECK.due("node -1", x.view(-1, 0, 0), -1);
        CHECK.due("node 3", x.view(3, 0, 0), -1);
        CHECK.due("neither node nor member", x.view(3, 3, 9), -1);
        CHECK.due("member of one that does not run", x.view(1, 5, 0), -1);
        CHECK.dueEntry("itself", x, 0, 0, 1, 0, 5, 0, 0);
        CHECK.dueEntry("missing", x, 0, 1, 0, 0, 0, 0, 0);
        CHECK.dueEntry("no member", x, 0, 3, 0, 0, 0, 0, 0);
        CHECK.dueEntry("no member", x, 0, -1, 0, 0, 0, 0, 0);
        CHECK.due("what -1", x.view(0, 0, -1), 0);
        CHECK.due("what 4", x.view(0, 0, 4), 0);
        x.crash(0);
        CHECK.due("does not run any more", x.view(0, 0, 0), -1);
    }

    private static void suspicionOfOneRipensInEighteen() {
        GossipNodes x = Groups.startedBy0(2);
        x.ticks(1);
        CHECK.dueEntry("learned", x, 0, 1, 1, 0, 1, 0);
        x.ticks(1);
        x.crash(1);
        x.ticks(7);
        CHECK.dueEntry("while probed", x, 0, 1, 1, 0, 1, 0);
        x.ticks(1);
        CHECK.dueEntry("suspected", x, 0, 1, 2, 0, 10, 1);
        CHECK.due("announced", x.queued(0, 1), 4);
        x.ticks(17);
        CHECK.dueEntry("probed once more meanwhile", x, 0, 1, 2, 0, 10, 1);
        CHECK.due("SUSPECT is not agreed", x.agreed(), false);
        x.ticks(1);
        CHECK.dueEntry("declared dead", x, 0, 1, 3, 0, 28, 0);
        CHECK.due("announced", x.queued(0, 1), 4);
        CHECK.due("DEAD is agreed", x.agreed(), true);
    }

    private static void suspicionOfTwoRipensInTwelve() {
        GossipNodes x = Groups.startedBy0(3);
        x.ticks(2);
        x.crash(2);
        CHECK.due("three PINGs, two ACKs", x.ticks(2), 5);
        x.ticks(15);
        for (int i = 0; i < 2; i++) {
            CHECK.dueEntry("both suspect, each alone", x, i, 2, 2, 0, 19, 1);
        }
        x.ticks(1);
        CHECK.due("PING and SYNC of each", x.flight(), 4);
        x.ticks(1);
        for (int i = 0; i < 2; i++) {
            CHECK.dueEntry("each confirms", x, i, 2, 2, 0, 19, 2);
        }
        x.ticks(9);
        CHECK.due("now", x.now(), 30);
        CHECK.dueEntry("still suspect, however often confirmed", x, 0, 2, 2, 0, 19, 2);
        x.ticks(1);
        for (int i = 0; i < 2; i++) {
            CHECK.dueEntry("dead", x, i, 2, 3, 0, 31, 0);
        }
    }

    /** All nodes probe the crashed one at once; more than three that confirm count as three. */
    private static void suspicionOfThreeRipensInSix() {
        for (int n = 4; n <= 8; n++) {
            GossipNodes x = Groups.startedBy0(n);
            x.ticks(60);
            CHECK.due("agreed of " + n, x.agreed(), true);
            int gone = n - 1;
            x.crash(gone);
            int suspectedAt = 0;
            int most = 0;
            for (int i = 0; i < 120 && x.view(0, gone, 0) != 3; i++) {
                x.ticks(1);
                if (x.view(0, gone, 0) == 2) {
                    suspectedAt = x.view(0, gone, 2);
                    most = Math.max(most, x.view(0, gone, 3));
                }
            }
            CHECK.due("all others confirmed of " + n, most, n - 1);
            CHECK.due("dead since of " + n, x.view(0, gone, 2), suspectedAt + 6);
        }
    }

    /** Two nodes that were cut suspect one another; their next PINGs say so. */
    private static void suspectRefutes() {
        GossipNodes x = Groups.startedBy0(2);
        x.ticks(2);
        x.cut(0, 1, true);
        x.ticks(8);
        CHECK.dueEntry("suspected", x, 0, 1, 2, 0, 10, 1);
        CHECK.dueEntry("suspected too", x, 1, 0, 2, 0, 10, 1);
        CHECK.due("score of none asked", x.node(1, 2), 1);
        x.cut(0, 1, false);
        x.ticks(2);
        CHECK.due("both probe a suspect, too", x.flight(), 2);
        x.ticks(1);
        for (int i = 0; i < 2; i++) {
            CHECK.due("one more", x.node(i, 1), 1);
            CHECK.dueEntry("itself", x, i, i, 1, 1, 13, 0);
            CHECK.due("the score grows", x.node(i, 2), 2);
            CHECK.due("announced, and sent with the ACK", x.queued(i, i), 3);
        }
        x.ticks(1);
        CHECK.dueEntry("alive again", x, 0, 1, 1, 1, 14, 0);
        CHECK.dueEntry("alive again", x, 1, 0, 1, 1, 14, 0);
        CHECK.due("agreed", x.agreed(), true);
    }

    private static void restartedNodeOutdoesItsDeath() {
        GossipNodes x = Groups.startedBy0(2);
        x.ticks(2);
        x.crash(1);
        x.ticks(28);
        x.start(1, 0);
        x.ticks(1);
        CHECK.dueEntry("ALIVE is not greater than DEAD", x, 0, 1, 3, 0, 28, 0);
        CHECK.dueMessage("SYNCED", x, 0, new int[] {7, 0, 1, 0, 0, 0}, 0, 1, 0, 1, 3, 0);
        x.ticks(1);
        CHECK.dueEntry("one more", x, 1, 1, 1, 1, 32, 0);
        CHECK.due("score", x.node(1, 2), 1);
        x.ticks(1);
        CHECK.dueEntry("back", x, 0, 1, 1, 1, 33, 0);
        CHECK.due("agreed", x.agreed(), true);
        x.crash(1);
        x.ticks(37);
        CHECK.due("dead again", x.view(0, 1, 0), 3);
        CHECK.due("with that incarnation", x.view(0, 1, 1), 1);
        x.start(1, 0);
        x.ticks(2);
        // "One more" than what was told of it, or its word would not count against that.
        CHECK.dueEntry("one more than was told", x, 1, 1, 1, 2, 72, 0);
    }

    /** News of itself as ALIVE are nothing, even with another incarnation. */
    private static void quickRestartIsNotAgreed() {
        GossipNodes x = Groups.startedBy0(2);
        x.ticks(2);
        x.crash(1);
        x.ticks(28);
        x.start(1, 0);
        x.ticks(3);
        x.crash(1);
        x.start(1, 0);
        x.ticks(2);
        CHECK.due("its own", x.node(1, 1), 0);
        CHECK.dueEntry("the other's", x, 0, 1, 1, 1, 33, 0);
        CHECK.due("both ALIVE, but not the same", x.agreed(), false);
    }

    private static void queueIsSharedOut() {
        GossipNodes x = Groups.startedBy0(5);
        x.ticks(1);
        for (int m = 0; m < 5; m++) {
            CHECK.due("SYNCED takes none", x.queued(0, m), 4);
        }
        CHECK.due("all queued", x.node(0, 8), 5);
        x.ticks(1);
        int[] left = {3, 3, 3, 4, 4};
        for (int m = 0; m < 5; m++) {
            CHECK.due("a PING takes the lowest three", x.queued(0, m), left[m]);
        }
        CHECK.dueMessage("PING", x, 0, new int[] {1, 0, 1, 1, 0, 1}, 0, 1, 0, 1, 1, 0, 2, 1, 0);
        // Nodes 1 to 4 ping node 0: four ACKs go out.
        x.ticks(1);
        int[][] carried = {{3, 4, 0}, {1, 2, 3}, {4, 0, 1}, {2, 3, 4}};
        for (int i = 0; i < 4; i++) {
            int[] m = carried[i];
            CHECK.dueMessage("ACK to " + (i + 1), x, i + 1, new int[] {2, 0, i + 1, 1, i + 1, 0},
                    m[0], 1, 0, m[1], 1, 0, m[2], 1, 0);
        }
        for (int m = 0; m < 5; m++) {
            CHECK.due("each was sent three times", x.queued(0, m), 1);
        }
    }

    private static void queuedAnswersNoneElsewhere() {
        GossipNodes x = new GossipNodes(3);
        CHECK.due("does not run", x.queued(0, 0), 0);
        x.start(0, 0);
        CHECK.due("its own", x.queued(0, 0), 4);
        CHECK.due("of a missing one", x.queued(0, 1), 0);
        CHECK.due("member -1", x.queued(0, -1), 0);
        CHECK.due("member 3", x.queued(0, 3), 0);
        CHECK.due("node -1", x.queued(-1, 0), 0);
        CHECK.due("node 3", x.queued(3, 0), 0);
        x.crash(0);
        CHECK.due("does not run any more", x.queued(0, 0), 0);
        x.start(0, 1);
        x.start(1, 0);
        x.ticks(2);
        x.ticks(18);
        CHECK.due("sent four times", x.queued(0, 0), 0);
        CHECK.due("gone from the queue", x.node(0, 8), 0);
    }

    private static void agreedLooksAtRunningNodes() {
        GossipNodes x = new GossipNodes(3);
        x.start(0, 0);
        CHECK.due("one alone", x.agreed(), true);
        x.start(1, 0);
        CHECK.due("not known yet", x.agreed(), false);
        x.ticks(1);
        CHECK.due("known by one", x.agreed(), false);
        x.ticks(1);
        CHECK.due("known by both", x.agreed(), true);
        x.crash(1);
        CHECK.due("held as ALIVE, but gone", x.agreed(), false);
        x.crash(0);
        CHECK.due("none runs", x.agreed(), true);
        x.start(2, 0);
        CHECK.due("those before are missing", x.agreed(), true);
    }
}
