/** Compares answers with what is due, and ends a test with exit code 1 if one was wrong. */
final class Check {
    /** A drawn run that goes wrong stays wrong: its first rows tell enough. */
    private static final int MOST_TOLD = 100;

    private final String test;
    private String sentence = "";
    private int checkedOfSentence = 1;
    private int checked = 0;
    private int wrong = 0;

    Check(String test) {
        this.test = test;
    }

    /** The words of the document that the checks from here on are for. */
    void sentence(String words) {
        endSentence();
        sentence = "\"" + words + "\": ";
        checkedOfSentence = 0;
    }

    private void endSentence() {
        if (checkedOfSentence == 0) {
            wrong++;
            System.out.println(test + ": " + sentence + "nothing was looked at");
        }
    }

    void due(String what, int got, int want) {
        checked++;
        checkedOfSentence++;
        if (got != want) {
            wrong++;
            if (wrong <= MOST_TOLD) {
                System.out.println(test + ": " + sentence + what + " answered " + got + ", due is " + want);
            }
        }
    }

    void due(String what, boolean got, boolean want) {
        due(what, got ? 1 : 0, want ? 1 : 0);
    }

    /** Two snapshots, or two texts of another kind, that are to be the same. */
    void dueSame(String what, String got, String want) {
        due(what + ", now: " + got + "\nbefore: " + want + "\nthe same", got.equals(want), true);
    }

    /** Answers of view from what = 0 on. */
    void dueEntry(String what, GossipNodes x, int node, int member, int... entry) {
        for (int i = 0; i < entry.length; i++) {
            due(what + ": view(" + node + ", " + member + ", " + i + ")", x.view(node, member, i), entry[i]);
        }
    }

    /** Answers of node from what = 2 on: score, target, clock, answered, number, REST. */
    void dueProbe(String what, GossipNodes x, int node, int... parts) {
        for (int i = 0; i < parts.length; i++) {
            due(what + " at " + x.now() + ": node(" + node + ", " + (2 + i) + ")", x.node(node, 2 + i), parts[i]);
        }
    }

    /** Kind, sender, receiver, number, origin, target and the news (node, state, incarnation each). */
    void dueMessage(String what, GossipNodes x, int k, int[] head, int... news) {
        for (int i = 0; i < head.length; i++) {
            due(what + ": message(" + k + ", " + i + ")", x.message(k, i), head[i]);
        }
        due(what + ": message(" + k + ", 6)", x.message(k, 6), news.length / 3);
        for (int i = 0; i < news.length; i++) {
            due(what + ": message(" + k + ", " + (7 + i) + ")", x.message(k, 7 + i), news[i]);
        }
        due(what + ": no news behind the last", x.message(k, 7 + news.length), 0);
    }

    void end() {
        endSentence();
        System.out.println(test + ": " + checked + " answers looked at, " + wrong + " wrong");
        if (wrong != 0 || checked == 0) {
            System.exit(1);
        }
    }
}
