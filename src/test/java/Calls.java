import java.util.ArrayList;
import java.util.List;
import java.util.Map;
import java.util.Set;
import java.util.regex.Matcher;
import java.util.regex.Pattern;

/**
 * Runs of calls as text, such as "show(0,2)=0 60*entry(0) begin(0,2)=OUTSIDE": behind '=' stands the
 * answer that is due, ahead of '*' how often the call is made.
 */
final class Calls {
    /** An object is used for at most so many calls. */
    static final int MOST = 512;

    private static final Pattern FORM = Pattern.compile("(?:(\\d+)\\*)?(\\w+)\\(([^)]*)\\)(?:=(\\S+))?");
    private static final Map<String, Long> WORDS = Map.ofEntries(Map.entry("NONE", -1L),
            Map.entry("UNKNOWN", -101L), Map.entry("OUTSIDE", -102L), Map.entry("STATE", -103L),
            Map.entry("FULL", -104L), Map.entry("WELL", 0L), Map.entry("DROPPED", 1L), Map.entry("CAUGHT", 2L),
            Map.entry("THREW", 3L), Map.entry("MIN", (long) Integer.MIN_VALUE),
            Map.entry("MAX", (long) Integer.MAX_VALUE));

    /** Told by the word, since a MARK of -101 is none. */
    private static final Set<String> REFUSALS = Set.of("UNKNOWN", "OUTSIDE", "STATE", "FULL");

    /** The answer due is null where none is told. */
    record Call(String text, String name, int[] args, Long due, boolean refused) {
        long on(JudgesLedger x) {
            return answer(x, name, args);
        }
    }

    private Calls() {
    }

    static List<Call> parse(String text) {
        List<Call> calls = new ArrayList<>();
        for (String word : text.trim().split("\\s+")) {
            Matcher m = FORM.matcher(word);
            if (!m.matches()) {
                throw new IllegalArgumentException("no call: " + word);
            }
            int times = m.group(1) == null ? 1 : Integer.parseInt(m.group(1));
            Long due = m.group(4) == null ? null : (Long) number(m.group(4));
            boolean refused = REFUSALS.contains(String.valueOf(m.group(4)));
            Call call = new Call(m.group(2) + "(" + m.group(3) + ")", m.group(2), args(m.group(3)), due, refused);
            for (int n = 0; n < times; n++) {
                calls.add(call);
            }
        }
        return calls;
    }

    private static int[] args(String text) {
        if (text.isEmpty()) {
            return new int[0];
        }
        String[] parts = text.split(",");
        int[] args = new int[parts.length];
        for (int k = 0; k < parts.length; k++) {
            args[k] = (int) number(parts[k]);
        }
        return args;
    }

    private static long number(String text) {
        Long word = WORDS.get(text);
        return word == null ? Long.parseLong(text) : word;
    }

    static long answer(JudgesLedger x, String call, int[] a) {
        switch (call) {
            case "show": return x.show(a[0], a[1]);
            case "entry": return x.entry(a[0]);
            case "prizes": return x.prizes(a[0], a[1], a[2], a[3]);
            case "rule": return x.rule(a[0], a[1], a[2]);
            case "clearRules": return x.clearRules();
            case "observe": return x.observe(a[0]);
            case "begin": return x.begin(a[0], a[1]);
            case "points": return x.points(a[0]);
            case "deduct": return x.deduct(a[0]);
            case "remark": return x.remark(a[0]);
            case "save": return x.save(a[0]);
            case "back": return x.back(a[0]);
            case "release": return x.release(a[0]);
            case "guard": return x.guard(a[0], a[1]);
            case "end": return x.end();
            case "drop": return x.drop();
            case "depth": return x.depth();
            case "scoring": return x.scoring(a[0], a[1]);
            case "told": return x.told(a[0], a[1]);
            case "mark": return x.mark(a[0], a[1]);
            case "place": return x.place(a[0], a[1]);
            case "close": return x.close(a[0]);
            case "about": return x.about(a[0], a[1]);
            case "uphold": return x.uphold(a[0]);
            case "event": return x.event(a[0], a[1]);
            case "failure": return x.failure(a[0], a[1]);
            case "is": return x.is(a[0], a[1]);
            case "undo": return x.undo();
            case "count": return x.count(a[0]);
            case "digest": return x.digest();
            default: throw new IllegalArgumentException("no call: " + call);
        }
    }
}
