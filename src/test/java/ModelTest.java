import java.util.Arrays;

/** Runs of drawn calls (the seeds are fixed), each answered by JudgesLedger and by the model. */
public final class ModelTest {
    private static final String[] CALLS = {"show", "entry", "prizes", "rule", "clearRules", "observe",
        "begin", "points", "deduct", "remark", "save", "back", "release", "guard", "end", "drop", "depth",
        "scoring", "told", "mark", "place", "close", "about", "uphold", "event", "failure", "is", "undo",
        "count", "digest"};
    /** How often each call of CALLS is drawn, by the sort of run. */
    private static final int[][] WEIGHTS = {
        {4, 8, 3, 3, 1, 2, 10, 16, 6, 5, 8, 4, 2, 6, 10, 2, 1, 4, 12, 5, 4, 3, 5, 3, 4, 5, 1, 3, 3, 3},
        {1, 2, 1, 1, 0, 1, 8, 90, 30, 20, 3, 1, 1, 2, 6, 1, 0, 1, 6, 2, 2, 1, 1, 2, 2, 1, 0, 1, 2, 2},
        {1, 2, 1, 6, 1, 2, 50, 30, 2, 2, 12, 3, 1, 9, 6, 1, 0, 3, 3, 1, 1, 1, 1, 1, 1, 9, 0, 1, 3, 3},
        {1, 6, 4, 0, 1, 1, 12, 16, 4, 6, 2, 1, 0, 0, 14, 1, 0, 1, 16, 2, 6, 8, 8, 8, 4, 1, 0, 8, 2, 4},
        {1, 1, 1, 1, 1, 1, 1, 1, 1, 1, 1, 1, 1, 1, 1, 1, 1, 1, 1, 1, 1, 1, 1, 1, 1, 1, 1, 1, 1, 1}};
    private static final int DRAWN_TO_A_DIGEST = 16;
    private static final int[] RULE_KINDS = {2, 3, 5, 6, 8, 10};

    private long drawnLast;
    private final int[] weights;
    private final int span;
    private final JudgesLedger x = new JudgesLedger();
    private final LedgerModel model = new LedgerModel();

    private ModelTest(long seed) {
        drawnLast = seed * 7919 + 12345;
        weights = WEIGHTS[(int) (seed % WEIGHTS.length)];
        span = draw(3) == 0 ? 6000 : 1 + draw(12);
    }

    public static void main(String[] args) {
        int runs = args.length > 0 ? Integer.parseInt(args[0]) : 3000;
        int wrong = 0;
        for (int seed = 0; seed < runs && wrong < 5; seed++) {
            if (!new ModelTest(seed).agrees(seed)) {
                wrong++;
            }
        }
        System.out.println(runs + " runs against the model, " + wrong + " with an answer that differs");
        if (wrong != 0) {
            System.exit(1);
        }
    }

    /** Digests are asked in between, so the drawn calls are fewer than an object may get. */
    private boolean agrees(int seed) {
        int left = Calls.MOST;
        for (int n = 0; left >= 2; n++) {
            String call = n < 4 ? CALLS[n % 2] : drawCall();
            int[] a = draw(40) == 0 ? wild() : drawn(call);
            boolean digests = n % DRAWN_TO_A_DIGEST == 0;
            left -= digests ? 2 : 1;
            long got = Calls.answer(x, call, a);
            long want = ofModel(call, a);
            if (got != want || digests && x.digest() != model.digest()) {
                System.out.println("run " + seed + ", call " + n + ": " + call + Arrays.toString(a)
                        + " answered " + got + ", the model " + want + ", or the digests differ");
                return false;
            }
        }
        return true;
    }

    /** 0 to n - 1; a generator of its own, so that every machine draws the same runs. */
    private int draw(int n) {
        drawnLast = drawnLast * 6364136223846793005L + 1442695040888963407L;
        return (int) ((drawnLast >>> 33) % n);
    }

    private String drawCall() {
        int left = draw(Arrays.stream(weights).sum());
        int k = 0;
        while (left >= weights[k]) {
            left -= weights[k];
            k++;
        }
        return CALLS[k];
    }

    private int[] wild() {
        int[] edges = {Integer.MIN_VALUE, -6001, -6000, -1, 0, 1, 7, 8, 15, 16, 6000, 6001, 1000000, 1000001,
            Integer.MAX_VALUE};
        int[] a = new int[4];
        for (int k = 0; k < 4; k++) {
            a[k] = edges[draw(edges.length)];
        }
        return a;
    }

    private int below(int n) {
        return draw(Math.max(1, n));
    }

    /** A number that mostly names one of n things, at times the one behind the last. */
    private int oneOf(int n) {
        return draw(12) == 0 ? n : below(n);
    }

    private int[] drawn(String call) {
        int classes = model.count(0);
        int entries = model.count(1);
        switch (call) {
            case "show": return new int[] {below(4), 1 + below(5), 0, 0};
            case "entry": case "close": return new int[] {oneOf(classes), 0, 0, 0};
            case "prizes": return new int[] {oneOf(classes), below(200), below(100), below(50)};
            case "rule": return new int[] {below(4), RULE_KINDS[below(6)], drawnLimit(), 0};
            case "observe": return new int[] {below(6), 0, 0, 0};
            case "begin": return drawnScoring(entries);
            case "points": return new int[] {below(2 * span + 1) - span / 2, 0, 0, 0};
            case "deduct": return new int[] {below(span + 1), 0, 0, 0};
            case "remark": return new int[] {below(8), 0, 0, 0};
            case "save": case "back": case "release": return new int[] {below(5), 0, 0, 0};
            case "guard": return new int[] {below(12), below(5), 0, 0};
            case "scoring": return new int[] {oneOf(model.depth()), below(10), 0, 0};
            case "told": return new int[] {oneOf(entries), below(8), 0, 0};
            case "mark": {
                int[] a = drawnScoring(entries);
                return new int[] {a[1], a[0], 0, 0};
            }
            case "place": return new int[] {oneOf(classes), oneOf(entries), 0, 0};
            case "about": return new int[] {oneOf(classes), below(7), 0, 0};
            case "uphold": case "event": return new int[] {oneOf(model.count(5)), below(6), 0, 0};
            case "failure": return new int[] {oneOf(model.count(7)), below(7), 0, 0};
            case "is": return new int[] {below(12), below(12), 0, 0};
            default: return new int[] {below(10), 0, 0, 0};
        }
    }

    private int drawnLimit() {
        return draw(3) == 0 ? below(40) : below(2 * span + 1) - span / 4;
    }

    private int[] drawnScoring(int entries) {
        int e = oneOf(entries);
        int c = model.told(e, 0);
        if (c < 0 || draw(12) == 0) {
            return new int[] {oneOf(model.count(2)), e, 0, 0};
        }
        return new int[] {model.about(c, 1) + below(model.about(c, 2)), e, 0, 0};
    }

    private long ofModel(String call, int[] a) {
        switch (call) {
            case "show": return model.show(a[0], a[1]);
            case "entry": return model.entry(a[0]);
            case "prizes": return model.prizes(a[0], a[1], a[2], a[3]);
            case "rule": return model.rule(a[0], a[1], a[2]);
            case "clearRules": return model.clearRules();
            case "observe": return model.observe(a[0]);
            case "begin": return model.begin(a[0], a[1]);
            case "points": return model.points(a[0]);
            case "deduct": return model.deduct(a[0]);
            case "remark": return model.remark(a[0]);
            case "save": return model.save(a[0]);
            case "back": return model.back(a[0]);
            case "release": return model.release(a[0]);
            case "guard": return model.guard(a[0], a[1]);
            case "end": return model.end();
            case "drop": return model.drop();
            case "depth": return model.depth();
            case "scoring": return model.scoring(a[0], a[1]);
            case "told": return model.told(a[0], a[1]);
            case "mark": return model.mark(a[0], a[1]);
            case "place": return model.place(a[0], a[1]);
            case "close": return model.close(a[0]);
            case "about": return model.about(a[0], a[1]);
            case "uphold": return model.uphold(a[0]);
            case "event": return model.event(a[0], a[1]);
            case "failure": return model.failure(a[0], a[1]);
            case "is": return model.is(a[0], a[1]);
            case "undo": return model.undo();
            case "count": return model.count(a[0]);
            default: return model.digest();
        }
    }
}
