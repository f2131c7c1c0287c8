import java.util.ArrayList;
import java.util.List;

/**
 * Whether two runs of calls leave the same ledger, as far as any later call can tell. Each look at the
 * ledgers is taken on new objects, so that none is used for more calls than the document grants.
 */
final class Twins {
    private Twins() {
    }

    /** A later run for each thing that is kept, but that no call reads; so many SCORINGS stand. */
    private static List<String> later(int depth) {
        String out = "drop() ".repeat(depth);
        List<String> runs = new ArrayList<>();
        runs.add("show(0,1) entry(0) rule(0,10,-1) observe(1) begin(0,0) guard(0,0) prizes(0,1,2,3) clearRules()");
        runs.add(out + "undo() digest() count(5) about(0,4) about(1,4) about(2,4) undo()");
        runs.add("end() digest() end() digest() 6*end() count(6) count(7) count(8) count(9) undo() digest()");
        runs.add(out + "begin(0,0) end() begin(0,0) end() begin(0,0) end() count(7) count(9) undo() digest()");
        runs.add("points(0) points(6000) points(-6000) save(3) save(3) end() count(7) count(8) depth() digest()");
        runs.add(out + "begin(0,0) points(0) points(101) points(-101) points(6000) save(3) end() count(7) digest()");
        runs.add("deduct(1) remark(0) remark(7) digest()");
        runs.add(out + "uphold(0) uphold(1) digest() undo() digest() about(0,4) about(1,4)");
        runs.add(out + "close(0) close(1) close(2) about(0,5) about(1,5) about(2,5) told(0,6) told(1,6) told(2,6)");
        for (int name = 0; name < 16; name++) {
            runs.add("back(" + name + ") digest() count(5) release(" + name + ") digest()");
            runs.add("drop() back(" + name + ") digest() count(5)");
        }
        String[] thatHold = {"2,-1", "3,-1", "5,MIN", "6,MAX", "8,-1", "10,-1"};
        for (String rule : thatHold) {
            String thrown = "clearRules() rule(0," + rule + ") 2*points(5) digest() depth() count(7) count(8) scoring(0,2)";
            runs.add(thrown);
            runs.add("drop() " + thrown);
        }
        return runs;
    }

    /** The first later call that is answered differently, or null. */
    static String difference(List<Calls.Call> a, List<Calls.Call> b) {
        int room = Calls.MOST - Math.max(a.size(), b.size());
        List<Calls.Call> reads = Calls.parse(reads(ledger(b)));
        for (int from = 0; from < reads.size() && room > 0; from += room) {
            String found = firstDifference(a, b, reads.subList(from, Math.min(from + room, reads.size())));
            if (found != null) {
                return found;
            }
        }
        for (String run : later(ledger(b).depth())) {
            List<Calls.Call> calls = Calls.parse(run);
            String found = firstDifference(a, b, calls.subList(0, Math.min(room, calls.size())));
            if (found != null) {
                return found + " in " + run;
            }
        }
        return null;
    }

    private static JudgesLedger ledger(List<Calls.Call> calls) {
        JudgesLedger x = new JudgesLedger();
        for (Calls.Call call : calls) {
            call.on(x);
        }
        return x;
    }

    private static String firstDifference(List<Calls.Call> a, List<Calls.Call> b, List<Calls.Call> asked) {
        JudgesLedger x = ledger(a);
        JudgesLedger y = ledger(b);
        for (Calls.Call call : asked) {
            long ofX = call.on(x);
            long ofY = call.on(y);
            if (ofX != ofY) {
                return call.text() + " answers " + ofX + ", not " + ofY;
            }
        }
        return null;
    }

    /** All that can be read of a ledger; MARKS, EVENTS and REMARKS are in the digest. */
    private static String reads(JudgesLedger x) {
        StringBuilder text = new StringBuilder("digest() depth()");
        int classes = x.count(0);
        int entries = x.count(1);
        int failures = x.count(7);
        int depth = x.depth();
        for (int what = 0; what < 10; what++) {
            text.append(" count(").append(what).append(')');
        }
        readRows(text, "scoring", depth, 20);
        readRows(text, "about", classes, 6);
        readRows(text, "told", entries, 7);
        readRows(text, "failure", Math.min(200, failures), 6);
        for (int c = 0; c < classes; c++) {
            text.append(" place(").append(c).append(",0)");
        }
        return text.toString();
    }

    /** One row more than there are, so that a new one would be seen. */
    private static void readRows(StringBuilder text, String call, int rows, int columns) {
        for (int i = 0; i <= rows; i++) {
            for (int what = 0; what < columns; what++) {
                text.append(' ').append(call).append('(').append(i).append(',').append(what).append(')');
            }
        }
    }
}
