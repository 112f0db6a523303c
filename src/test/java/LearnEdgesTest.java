/** The edges under "Terms" of entries and news: what is greater, what is nothing; and of agreed. */
public final class LearnEdgesTest {
    private static final Check CHECK = new Check("LearnEdgesTest");

    public static void main(String[] args) {
        suspectOfAMissingOne();
        deadOfAMissingOne();
        greaterIncarnation();
        greaterStateOfTheSame();
        lesserStateOfTheSame();
        lesserIncarnation();
        newsOfItselfNotBelow();
        newsOfItselfAbove();
        newsOfItselfBelow();
        newsOfItselfAtScoreFour();
        newsOfItselfAlive();
        sameNewsOfAnother();
        confirmedAlone();
        confirmedToo();
        confirmedByTheSameOneTwice();
        olderSuspicionConfirmsNothing();
        announcedInPlaceOfAnOlderOne();
        newsAreLearnedBeforeTheAnswer();
        agreedOfNone();
        agreedOfOne();
        notAgreedWithOneMissing();
        notAgreedWithOneSuspect();
        notAgreedWithOneDead();
        notAgreedWithOthersAlive();
        agreedWithOthersMissingOrDead();
        notAgreedOnIncarnations();
        CHECK.end();
    }

    private static void suspectOfAMissingOne() {
        CHECK.sentence("any is greater than a missing one");
        GossipNodes x = Groups.suspectingPairOf(3);
        x.start(2, 0);
        x.ticks(1);
        CHECK.dueEntry("still missing", x, 2, 1, 0, 0, 0, 0);
        x.ticks(1);
        CHECK.dueEntry("SUSPECT, by 0 alone", x, 2, 1, 2, 0, 12, 1);
        CHECK.due("announced, and sent with its PING", x.queued(2, 1), 3);
    }

    private static void deadOfAMissingOne() {
        CHECK.sentence("any is greater than a missing one");
        GossipNodes x = Groups.suspectingPairOf(3);
        x.ticks(18);
        x.start(2, 0);
        x.ticks(2);
        CHECK.dueEntry("DEAD", x, 2, 1, 3, 0, 30, 0);
        CHECK.due("announced, and sent with its PING", x.queued(2, 1), 3);
    }

    /**
     * At tick 40 node 1 has been DEAD, and has begun again by way of node 2, which has it as ALIVE with
     * incarnation 1; node 0 was cut off then, has it as DEAD with incarnation 0, and sends 2 a SYNC.
     */
    private static GossipNodes twoMindsAtForty() {
        GossipNodes x = Groups.suspectingPairOf(3);
        x.ticks(18);
        x.cut(0, 1, true);
        x.start(2, 0);
        x.ticks(2);
        x.start(1, 2);
        x.ticks(2);
        x.cut(0, 2, true);
        x.ticks(8);
        x.cut(0, 2, false);
        CHECK.dueEntry("with 0", x, 0, 1, 3, 0, 28, 0);
        CHECK.dueEntry("with 2", x, 2, 1, 1, 1, 33, 0);
        CHECK.due("a SYNC to 2", Wire.count(x, Wire.SYNC, 0, 2), 1);
        return x;
    }

    private static void greaterIncarnation() {
        CHECK.sentence("is GREATER than another one with a greater incarnation");
        GossipNodes x = twoMindsAtForty();
        x.ticks(2);
        CHECK.dueEntry("ALIVE 1 for DEAD 0", x, 0, 1, 1, 1, 42, 0);
        GossipNodes y = Groups.pairOf(2);
        y.cut(0, 1, true);
        y.ticks(8);
        y.cut(0, 1, false);
        y.ticks(4);
        CHECK.dueEntry("ALIVE 1 for SUSPECT 0", y, 0, 1, 1, 1, 14, 0);
    }

    private static void lesserIncarnation() {
        CHECK.sentence("is GREATER than another one with a greater incarnation");
        GossipNodes x = twoMindsAtForty();
        x.ticks(1);
        CHECK.due("the SYNC has come", Wire.count(x, Wire.SYNCED, 2, 0), 1);
        CHECK.dueEntry("not DEAD 0 for ALIVE 1", x, 2, 1, 1, 1, 33, 0);
    }

    private static void greaterStateOfTheSame() {
        CHECK.sentence("or the same and a greater state");
        GossipNodes x = Groups.startedBy0(3);
        x.ticks(2);
        x.crash(1);
        x.ticks(8);
        CHECK.dueEntry("0 suspects", x, 0, 1, 2, 0, 10, 1);
        CHECK.dueEntry("2 does not", x, 2, 1, 1, 0, 2, 0);
        x.ticks(2);
        CHECK.dueEntry("SUSPECT 0 for ALIVE 0", x, 2, 1, 2, 0, 12, 1);
        CHECK.due("announced, and sent with the ACK", x.queued(2, 1), 3);
        GossipNodes y = Groups.pairOf(2);
        y.leave(1);
        y.ticks(1);
        CHECK.dueEntry("DEAD 0 for ALIVE 0", y, 0, 1, 3, 0, 3, 0);
        GossipNodes z = Groups.pairOf(2);
        z.drop(0);
        z.ticks(8);
        CHECK.dueEntry("SUSPECT", z, 0, 1, 2, 0, 10, 1);
        z.leave(1);
        z.ticks(1);
        CHECK.dueEntry("DEAD 0 for SUSPECT 0", z, 0, 1, 3, 0, 11, 0);
    }

    private static void lesserStateOfTheSame() {
        CHECK.sentence("or the same and a greater state");
        GossipNodes x = Groups.pairOf(2);
        x.cut(0, 1, true);
        x.ticks(8);
        x.cut(0, 1, false);
        x.ticks(2);
        int ping = Wire.place(x, Wire.PING, 1, 0);
        CHECK.dueMessage("its PING", x, ping, new int[] {1, 1, 0, 2, 1, 0}, 0, 2, 0, 1, 1, 0);
        x.ticks(1);
        CHECK.dueEntry("not ALIVE 0 for SUSPECT 0", x, 0, 1, 2, 0, 10, 1);
        GossipNodes y = Groups.suspectingPairOf(2);
        y.ticks(18);
        y.start(1, 0);
        y.ticks(1);
        CHECK.dueEntry("not ALIVE 0 for DEAD 0", y, 0, 1, 3, 0, 28, 0);
        GossipNodes z = Groups.suspectingPairOf(3);
        z.ticks(14);
        z.start(2, 0);
        z.ticks(2);
        Wire.lose(z, Wire.PING, 2, 0);
        z.ticks(2);
        z.leave(2);
        int gossip = Wire.place(z, Wire.GOSSIP, 2, 0);
        CHECK.dueMessage("GOSSIP", z, gossip, new int[] {5, 2, 0, 0, 0, 0}, 2, 3, 0, 0, 1, 0, 1, 2, 0);
        z.ticks(1);
        CHECK.dueEntry("it has come", z, 0, 2, 3, 0, 29, 0);
        CHECK.dueEntry("not SUSPECT 0 for DEAD 0", z, 0, 1, 3, 0, 28, 0);
    }

    private static void newsOfItselfNotBelow() {
        CHECK.sentence("if its incarnation is not below its own one, that becomes one more, and the score grows by 1");
        GossipNodes x = Groups.suspectingPairOf(2);
        x.start(1, 0);
        x.ticks(1);
        CHECK.due("its own", x.node(1, 1), 0);
        x.ticks(1);
        CHECK.due("SUSPECT of the same", x.node(1, 1), 1);
        CHECK.due("score", x.node(1, 2), 1);
        GossipNodes y = Groups.suspectingPairOf(2);
        y.ticks(18);
        y.start(1, 0);
        y.ticks(2);
        CHECK.due("DEAD of the same", y.node(1, 1), 1);
        CHECK.due("score", y.node(1, 2), 1);
    }

    /** The word of a node that began again must count against its death with incarnation 1. */
    private static void newsOfItselfAbove() {
        CHECK.sentence("if its incarnation is not below its own one, that becomes one more, and the score grows by 1");
        GossipNodes x = Groups.suspectingPairOf(2);
        x.start(1, 0);
        x.ticks(3);
        CHECK.dueEntry("ALIVE 1", x, 0, 1, 1, 1, 13, 0);
        x.leave(1);
        x.ticks(1);
        CHECK.dueEntry("DEAD 1", x, 0, 1, 3, 1, 14, 0);
        x.start(1, 0);
        x.ticks(2);
        CHECK.dueEntry("ALIVE 2", x, 1, 1, 1, 2, 16, 0);
        CHECK.due("score", x.node(1, 2), 1);
        x.ticks(1);
        CHECK.dueEntry("ALIVE 2 for DEAD 1", x, 0, 1, 1, 2, 17, 0);
    }

    /** What was said of incarnation 0 comes once more when the node has outdone it already. */
    private static void newsOfItselfBelow() {
        CHECK.sentence("in any case it ANNOUNCES itself ALIVE with its incarnation");
        GossipNodes x = Groups.pairOf(2);
        x.cut(0, 1, true);
        x.ticks(8);
        x.cut(0, 1, false);
        x.ticks(3);
        CHECK.due("outdone", x.node(0, 1), 1);
        CHECK.due("score", x.node(0, 2), 2);
        Wire.lose(x, Wire.ACK, Wire.ANY, Wire.ANY);
        x.ticks(11);
        CHECK.due("the score of one more lost probe", x.node(0, 2), 3);
        CHECK.due("sendings left before", x.queued(0, 0), 2);
        CHECK.due("PING", x.message(Wire.place(x, Wire.PING, 1, 0), 0), 1);
        x.ticks(1);
        CHECK.due("no more than before", x.node(0, 1), 1);
        CHECK.due("nor the score", x.node(0, 2), 3);
        CHECK.due("since then", x.view(0, 0, 2), 13);
        CHECK.due("announced, and sent with the ACK", x.queued(0, 0), 3);
    }

    private static void newsOfItselfAtScoreFour() {
        CHECK.sentence("and the score grows by 1 (4 at most)");
        GossipNodes x = Groups.startedBy0(4);
        x.ticks(2);
        Wire.cutFromAll(x, 0, 4, true);
        x.ticks(31);
        CHECK.due("score", x.node(0, 2), 4);
        CHECK.due("incarnation", x.node(0, 1), 0);
        Wire.cutFromAll(x, 0, 4, false);
        int told = 0;
        for (int t = 0; t < 20 && x.node(0, 1) == 0; t++) {
            CHECK.due("score before", x.node(0, 2), 4);
            x.ticks(1);
            told = x.now();
        }
        CHECK.due("one more", x.node(0, 1), 1);
        CHECK.due("since then", x.view(0, 0, 2), told);
        CHECK.due("still in the probe", x.node(0, 3) >= 0, true);
        CHECK.due("not above four", x.node(0, 2), 4);
    }

    private static void newsOfItselfAlive() {
        CHECK.sentence("(Other news of itself are nothing.)");
        GossipNodes x = Groups.pairOf(2);
        x.ticks(18);
        CHECK.dueMessage("SYNC", x, 1, new int[] {6, 0, 1, 0, 0, 0}, 0, 1, 0, 1, 1, 0);
        x.ticks(1);
        CHECK.dueEntry("of the same incarnation", x, 1, 1, 1, 0, 0, 0);
        CHECK.due("nothing is announced", x.node(1, 8), 0);
        CHECK.due("no score", x.node(1, 2), 0);
        GossipNodes y = Groups.suspectingPairOf(2);
        y.start(1, 0);
        y.ticks(3);
        y.crash(1);
        y.start(1, 1);
        y.ticks(1);
        y.crash(1);
        y.start(1, 0);
        y.ticks(1);
        CHECK.dueMessage("SYNCED", y, Wire.place(y, Wire.SYNCED, 0, 1), new int[] {7, 0, 1, 0, 0, 0}, 0, 1, 0, 1, 1, 1);
        y.ticks(1);
        CHECK.dueEntry("of a greater one", y, 1, 1, 1, 0, 14, 0);
        CHECK.due("no score", y.node(1, 2), 0);
    }

    private static void sameNewsOfAnother() {
        CHECK.sentence("Of another one: if greater than its entry, it becomes the entry, since NOW, and is ANNOUNCED");
        GossipNodes x = Groups.pairOf(2);
        x.ticks(18);
        CHECK.due("the queue is empty", x.node(1, 8), 0);
        x.ticks(1);
        CHECK.dueEntry("the same ALIVE", x, 1, 0, 1, 0, 2, 0);
        CHECK.due("nothing is announced", x.queued(1, 0), 0);
        GossipNodes y = Groups.suspectingPairOf(3);
        y.ticks(18);
        y.start(2, 0);
        y.ticks(2);
        CHECK.due("DEAD in its PING", y.message(Wire.place(y, Wire.PING, 2, 0), 11), 3);
        CHECK.due("announced before", y.queued(0, 1), 4);
        y.ticks(1);
        CHECK.dueEntry("the same DEAD", y, 0, 1, 3, 0, 28, 0);
        CHECK.due("not announced, but sent with the ACK", y.queued(0, 1), 3);
    }

    /** Both that confirmed the suspicion of incarnation 0 are forgotten for that of incarnation 1. */
    private static void confirmedAlone() {
        CHECK.sentence("if it is SUSPECT, s has CONFIRMED it, alone");
        GossipNodes x = Groups.startedBy0(3);
        x.ticks(2);
        Wire.cutFromAll(x, 2, 3, true);
        x.ticks(19);
        CHECK.dueEntry("two confirmed", x, 0, 2, 2, 0, 19, 2);
        Wire.cutFromAll(x, 2, 3, false);
        x.ticks(10);
        CHECK.dueEntry("outdone", x, 0, 2, 1, 1, 31, 0);
        x.cut(1, 2, true);
        for (int t = 0; t < 60 && x.view(0, 2, 0) == 1; t++) {
            Wire.lose(x, Wire.ASK, 1, 0);
            x.ticks(1);
        }
        CHECK.dueEntry("1 suspects by itself, alone", x, 1, 2, 2, 1, 55, 1);
        CHECK.dueEntry("1 has told 0, alone", x, 0, 2, 2, 1, 58, 1);
        CHECK.due("the probe of 0 still goes on", x.node(0, 4), 2);
    }

    private static GossipNodes bothSuspectAtNineteen() {
        GossipNodes x = Groups.startedBy0(3);
        x.ticks(2);
        x.crash(2);
        x.ticks(17);
        for (int i = 0; i < 2; i++) {
            CHECK.dueEntry("each alone", x, i, 2, 2, 0, 19, 1);
        }
        return x;
    }

    private static void confirmedToo() {
        CHECK.sentence("If it is the same as the entry and SUSPECT, s has confirmed it, too.");
        GossipNodes x = bothSuspectAtNineteen();
        x.ticks(1);
        CHECK.due("announced, and sent with the PING", x.queued(0, 2), 3);
        Wire.lose(x, Wire.SYNC, Wire.ANY, Wire.ANY);
        x.ticks(1);
        CHECK.dueEntry("two, since the same tick", x, 0, 2, 2, 0, 19, 2);
        CHECK.due("not announced again, but sent with the ACK", x.queued(0, 2), 2);
    }

    private static void confirmedByTheSameOneTwice() {
        CHECK.sentence("when the nodes that confirmed it are n");
        GossipNodes x = bothSuspectAtNineteen();
        x.ticks(1);
        CHECK.due("PING and SYNC of 1 tell it", Wire.count(x, Wire.ANY, 1, 0), 2);
        x.ticks(1);
        CHECK.due("1 counts once", x.view(0, 2, 3), 2);
        x.ticks(1);
        CHECK.due("ACK and SYNCED of 1 have told it again", x.view(0, 2, 3), 2);
    }

    private static void olderSuspicionConfirmsNothing() {
        CHECK.sentence("If it is the same as the entry and SUSPECT, s has confirmed it, too.");
        GossipNodes x = Groups.suspectingPairOf(3);
        x.ticks(2);
        Wire.lose(x, Wire.PING, 0, 1);
        x.start(1, 0);
        x.ticks(1);
        x.start(2, 0);
        x.ticks(2);
        CHECK.dueEntry("0 has heard from 1 itself", x, 0, 1, 1, 1, 15, 0);
        CHECK.dueEntry("2 has heard of the suspicion", x, 2, 1, 2, 0, 15, 1);
        Wire.lose(x, Wire.ASK, 0, 2);
        x.crash(1);
        x.cut(0, 2, true);
        x.ticks(5);
        CHECK.dueEntry("0 suspects again", x, 0, 1, 2, 1, 20, 1);
        x.cut(0, 2, false);
        x.leave(2);
        CHECK.dueMessage("GOSSIP", x, Wire.place(x, Wire.GOSSIP, 2, 0), new int[] {5, 2, 0, 0, 0, 0},
                2, 3, 0, 0, 1, 0, 1, 2, 0);
        x.ticks(1);
        CHECK.dueEntry("it has come", x, 0, 2, 3, 0, 21, 0);
        CHECK.dueEntry("SUSPECT 0 does not confirm SUSPECT 1", x, 0, 1, 2, 1, 20, 1);
    }

    private static void announcedInPlaceOfAnOlderOne() {
        CHECK.sentence("with 4 sendings (in place of an older one)");
        GossipNodes x = Groups.pairOf(2);
        x.crash(1);
        x.ticks(1);
        CHECK.due("ALIVE was sent twice", x.queued(0, 1), 2);
        CHECK.due("with its own news", x.node(0, 8), 2);
        x.ticks(7);
        CHECK.due("SUSPECT in its place", x.queued(0, 1), 4);
        CHECK.due("one news of each", x.node(0, 8), 2);
        x.ticks(2);
        CHECK.dueMessage("SUSPECT alone is sent", x, 0, new int[] {1, 0, 1, 2, 0, 1}, 1, 2, 0, 0, 1, 0);
        x.ticks(15);
        CHECK.due("SUSPECT was sent twice", x.queued(0, 1), 2);
        CHECK.due("its own news is gone", x.node(0, 8), 1);
        x.ticks(1);
        CHECK.due("DEAD in its place", x.queued(0, 1), 4);
        CHECK.due("still one", x.node(0, 8), 1);
        x.leave(0);
        CHECK.due("none is told", x.flight(), 0);
    }

    private static void newsAreLearnedBeforeTheAnswer() {
        CHECK.sentence("first its news, in order, are LEARNED, from the sender");
        GossipNodes x = Groups.startedBy0(2);
        x.ticks(1);
        CHECK.dueMessage("SYNCED knows the SYNC", x, 0, new int[] {7, 0, 1, 0, 0, 0}, 0, 1, 0, 1, 1, 0);
        GossipNodes y = Groups.pairOf(2);
        y.drop(0);
        y.ticks(10);
        CHECK.dueMessage("PING", y, Wire.place(y, Wire.PING, 0, 1), new int[] {1, 0, 1, 2, 0, 1}, 1, 2, 0, 0, 1, 0);
        y.ticks(1);
        CHECK.dueMessage("ACK knows the PING", y, Wire.place(y, Wire.ACK, 1, 0), new int[] {2, 1, 0, 2, 0, 1},
                1, 1, 1, 0, 1, 0);
    }

    private static void agreedOfNone() {
        CHECK.sentence("Whether all running nodes have the running ones, and no others, as ALIVE");
        GossipNodes x = new GossipNodes(8);
        CHECK.due("none has run", x.agreed(), true);
        x.start(0, 1);
        x.crash(0);
        CHECK.due("none runs any more", x.agreed(), true);
    }

    private static void agreedOfOne() {
        CHECK.sentence("Whether all running nodes have the running ones, and no others, as ALIVE");
        GossipNodes x = new GossipNodes(8);
        x.start(7, 0);
        CHECK.due("the last alone", x.agreed(), true);
        x.ticks(100);
        CHECK.due("and later", x.agreed(), true);
    }

    private static void notAgreedWithOneMissing() {
        CHECK.sentence("Whether all running nodes have the running ones, and no others, as ALIVE");
        GossipNodes x = Groups.startedBy0(2);
        CHECK.due("neither knows the other", x.agreed(), false);
        x.ticks(1);
        CHECK.due("one knows the other", x.agreed(), false);
        x.ticks(1);
        CHECK.due("both", x.agreed(), true);
        GossipNodes y = Groups.startedBy0(3);
        y.ticks(2);
        CHECK.due("1 does not know 2", y.view(1, 2, 0), 0);
        CHECK.due("one of three does not know all", y.agreed(), false);
    }

    private static void notAgreedWithOneSuspect() {
        CHECK.sentence("Whether all running nodes have the running ones, and no others, as ALIVE");
        GossipNodes x = Groups.pairOf(2);
        x.drop(0);
        x.ticks(7);
        CHECK.due("ALIVE", x.agreed(), true);
        x.ticks(1);
        CHECK.due("a running one is SUSPECT", x.view(0, 1, 0), 2);
        CHECK.due("not agreed", x.agreed(), false);
    }

    private static void notAgreedWithOneDead() {
        CHECK.sentence("Whether all running nodes have the running ones, and no others, as ALIVE");
        GossipNodes x = Groups.suspectingPairOf(2);
        x.ticks(18);
        CHECK.due("DEAD, and does not run", x.agreed(), true);
        x.start(1, 1);
        CHECK.due("DEAD, but runs", x.agreed(), false);
    }

    private static void notAgreedWithOthersAlive() {
        CHECK.sentence("and no others, as ALIVE (others are missing or DEAD)");
        GossipNodes x = Groups.pairOf(2);
        x.crash(1);
        CHECK.due("ALIVE, but does not run", x.agreed(), false);
        x.ticks(8);
        CHECK.due("SUSPECT", x.view(0, 1, 0), 2);
        CHECK.due("SUSPECT, but does not run", x.agreed(), false);
    }

    private static void agreedWithOthersMissingOrDead() {
        CHECK.sentence("(others are missing or DEAD)");
        GossipNodes x = Groups.pairOf(8);
        CHECK.due("six are missing", x.agreed(), true);
        x.leave(1);
        CHECK.due("still ALIVE with 0", x.agreed(), false);
        x.ticks(1);
        CHECK.due("DEAD with 0", x.view(0, 1, 0), 3);
        CHECK.due("missing and DEAD", x.agreed(), true);
        x.start(2, 2);
        x.cut(0, 2, true);
        CHECK.due("a running one is missing", x.agreed(), false);
        x.crash(0);
        CHECK.due("what 0 has does not count any more", x.agreed(), true);
    }

    /** 0 has 1 with incarnation 1, but 1 has begun again with 0 since, and is told of itself as ALIVE. */
    private static void notAgreedOnIncarnations() {
        CHECK.sentence("with the same incarnations");
        GossipNodes x = Groups.suspectingPairOf(2);
        x.start(1, 0);
        x.ticks(3);
        CHECK.due("both have 1", x.agreed(), true);
        x.crash(1);
        x.start(1, 0);
        x.ticks(2);
        CHECK.dueEntry("1 and 0 with 0", x, 0, 1, 1, 1);
        CHECK.dueEntry("0 with 1", x, 1, 1, 1, 0);
        CHECK.dueEntry("it knows 0", x, 1, 0, 1, 0);
        CHECK.due("ALIVE everywhere, but not the same", x.agreed(), false);
    }
}
