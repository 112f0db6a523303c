/** Compares answers with what is due, and ends a test with exit code 1 if one was wrong. */
final class Check {
    /** A drawn run that goes wrong stays wrong: its first rows tell enough. */
    private static final int MOST_TOLD = 100;

    private final String test;
    private int checked = 0;
    private int wrong = 0;

    Check(String test) {
        this.test = test;
    }

    void due(String what, int got, int want) {
        checked++;
        if (got != want) {
            wrong++;
            if (wrong <= MOST_TOLD) {
                System.out.println(test + ": " + what + " answered " + got + ", due is " + want);
            }
        }
    }

    void due(String what, boolean got, boolean want) {
        due(what, got ? 1 : 0, want ? 1 : 0);
    }

    /** Kind, sender, receiver, number, origin, target and the news (node, state, incarnation each). */
    void dueMessage(String what, GossipNodes x, int k, int[] head, int... news) {
        for (int i = 0; i < head.length; i++) {
            due(what + ": message(" + k + ", " + i + ")", x.message(k, i), head[i]);
        }
        due(what + ": message(" + k + ", 6)", x.message(k, 6), news.length / 3);
        for (int i = 0; i < news.length; i++) {
            due(what + ": message(" + k + ", " + (7 + i) + ")", x.message(k, 7 + i), news[i]);
        }
        due(what + ": no news behind the last", x.message(k, 7 + news.length), 0);
    }

    void end() {
        System.out.println(test + ": " + checked + " answers looked at, " + wrong + " wrong");
        if (wrong != 0 || checked == 0) {
            System.exit(1);
        }
    }
}
