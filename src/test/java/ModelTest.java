import java.util.Random;

/** Runs of calls drawn from fixed seeds, each call answered by GossipNodes and by the model. */
public final class ModelTest {
    private static final int RUNS = 3000;
    private static final int CALLS = 512;

    private final Check check;
    private final Random random;
    private final int run;
    private final int size;
    /** How many calls of a hundred break something. */
    private final int disturbing;
    private final GossipNodes x;
    private final Model y;

    private ModelTest(Check check, int run) {
        this.check = check;
        this.run = run;
        random = new Random(run);
        size = random.nextInt(11);
        // Some runs break much and wait little, some let suspicions ripen, some stay in step.
        disturbing = new int[] {28, 10, 1}[run % 3];
        x = new GossipNodes(size);
        y = new Model(size);
    }

    public static void main(String[] args) {
        Check check = new Check("ModelTest");
        for (int run = 1; run <= RUNS; run++) {
            new ModelTest(check, run).callAll();
        }
        check.end();
    }

    private void callAll() {
        int called = startAll();
        // One less, as a disturbance may take two calls.
        for (; called < CALLS - 1; called++) {
            int draw = random.nextInt(100);
            if (draw < disturbing) {
                called += disturb();
            } else if (draw < 50) {
                tick();
            } else {
                observe();
            }
        }
    }

    private int startAll() {
        int started = 0;
        for (int i = 0; i < size && i < 8; i++) {
            start(i, random.nextInt(i + 1));
            started++;
        }
        return started;
    }

    private int anyNode() {
        return random.nextInt(40) == 0 ? random.nextInt(20) - 6 : random.nextInt(Math.max(2, Math.min(8, size)));
    }

    private int anyPlace() {
        int on = Math.max(1, y.flight());
        return random.nextInt(20) == 0 ? new int[] {-1, on, on - 1, Integer.MAX_VALUE, Integer.MIN_VALUE}
                [random.nextInt(5)] : random.nextInt(on);
    }

    private void start(int node, int by) {
        due("start(" + node + ", " + by + ")", x.start(node, by) ? 1 : 0, y.start(node, by) ? 1 : 0);
    }

    private void tick() {
        int draw = random.nextInt(60);
        int n = draw == 0 ? random.nextInt(140) - 20 : draw < 8 ? random.nextInt(25) : 1 + random.nextInt(3);
        due("ticks(" + n + ")", x.ticks(n), y.ticks(n));
    }

    /** How many calls it made beside the one. */
    private int disturb() {
        int a = anyNode();
        int b = anyNode();
        int k = anyPlace();
        boolean is = random.nextInt(3) != 0;
        switch (random.nextInt(11)) {
            case 0 -> due("crash(" + a + ")", x.crash(a) ? 1 : 0, y.crash(a) ? 1 : 0);
            case 9 -> {
                due("crash(" + a + ")", x.crash(a) ? 1 : 0, y.crash(a) ? 1 : 0);
                start(a, b);
                return 1;
            }
            case 1 -> due("leave(" + a + ")", x.leave(a) ? 1 : 0, y.leave(a) ? 1 : 0);
            case 2, 3, 4 -> start(a, b);
            case 5, 6 -> due("cut(" + a + ", " + b + ", " + is + ")", x.cut(a, b, is) ? 1 : 0, y.cut(a, b, is) ? 1 : 0);
            case 7, 8 -> due("drop(" + k + ")", x.drop(k) ? 1 : 0, y.drop(k) ? 1 : 0);
            default -> due("swap(" + k + ")", x.swap(k) ? 1 : 0, y.swap(k) ? 1 : 0);
        }
        return 0;
    }

    private void observe() {
        int a = anyNode();
        int b = anyNode();
        int k = anyPlace();
        int what = random.nextInt(12) - 1;
        int far = random.nextInt(34) - 1;
        switch (random.nextInt(12)) {
            case 0 -> due("now()", x.now(), y.now());
            case 1 -> due("flight()", x.flight(), y.flight());
            case 2, 3, 4 -> due("message(" + k + ", " + far + ")", x.message(k, far), y.message(k, far));
            case 5, 6 -> due("view(" + a + ", " + b + ", " + what % 5 + ")", x.view(a, b, what % 5), y.view(a, b, what % 5));
            case 7, 8, 9 -> due("node(" + a + ", " + what + ")", x.node(a, what), y.node(a, what));
            case 10 -> due("queued(" + a + ", " + b + ")", x.queued(a, b), y.queued(a, b));
            default -> due("agreed()", x.agreed() ? 1 : 0, y.agreed() ? 1 : 0);
        }
    }

    private void due(String call, int got, int want) {
        check.due("run " + run + " of " + size + " nodes, " + call, got, want);
    }
}
