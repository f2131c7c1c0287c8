import java.util.ArrayList;
import java.util.Arrays;
import java.util.List;

/**
 * The document told again, as slowly and plainly as it reads: THE STATE is copied whole wherever it
 * is kept, so that nothing here leans on how JudgesLedger goes back.
 */
final class LedgerModel {
    static final int NONE = -1, UNKNOWN = -101, OUTSIDE = -102, STATE = -103, FULL = -104;

    private static final class ShowClass {
        int schedule, firstJudge, judges;
        int[] prizes = new int[3];
        boolean closed;
    }

    private static final class Event {
        final int sort, judge, entry, number;
        final boolean counts;

        Event(int sort, int judge, int entry, int number, boolean counts) {
            this.sort = sort;
            this.judge = judge;
            this.entry = entry;
            this.number = number;
            this.counts = counts;
        }
    }

    private static final class State {
        final int[][] mark = new int[60][60];
        final int[] off = new int[60];
        final boolean[][] remark = new boolean[60][8];
        final List<Event> events = new ArrayList<>();

        State copy() {
            State s = new State();
            for (int e = 0; e < 60; e++) {
                s.mark[e] = mark[e].clone();
                s.off[e] = off[e];
                s.remark[e] = remark[e].clone();
            }
            s.events.addAll(events);
            return s;
        }
    }

    private record Savepoint(int name, State state) { }

    private record Guard(int kind, int name) { }

    private static final class Scoring {
        int judge, entry;
        State atBegin;
        List<Savepoint> savepoints = new ArrayList<>();
        final List<Guard> guards = new ArrayList<>();

        int find(int name) {
            for (int k = 0; k < savepoints.size(); k++) {
                if (savepoints.get(k).name() == name) {
                    return k;
                }
            }
            return -1;
        }

        void keep(int n) {
            savepoints = new ArrayList<>(savepoints.subList(0, n));
        }
    }

    private record Rule(int moment, int kind, long a) { }

    private static final class Observer {
        int n, told;
    }

    private record Before(State state, boolean[] closed) { }

    private final List<ShowClass> classes = new ArrayList<>();
    private final List<Integer> judgeClass = new ArrayList<>();
    private final List<Integer> entryClass = new ArrayList<>();
    private final List<Rule> rules = new ArrayList<>();
    private final List<Observer> observers = new ArrayList<>();
    private final List<Scoring> scorings = new ArrayList<>();
    private final List<int[]> failures = new ArrayList<>();
    private State state = new State();
    private Before atOutermostBegin = null;
    private Before undoable = null;
    private int acts, failuresEver, caught, tellings;

    private static boolean in(int n, int low, int high) {
        return low <= n && n <= high;
    }

    private static boolean names(List<?> list, int n) {
        return in(n, 0, list.size() - 1);
    }

    private Before before() {
        boolean[] closed = new boolean[12];
        for (int c = 0; c < classes.size(); c++) {
            closed[c] = classes.get(c).closed;
        }
        return new Before(state.copy(), closed);
    }

    private Scoring inner() {
        return scorings.isEmpty() ? null : scorings.get(scorings.size() - 1);
    }

    int show(int schedule, int judges) {
        if (!in(schedule, 0, 3) || !in(judges, 1, 5)) return OUTSIDE;
        if (classes.size() == 12) return FULL;
        ShowClass c = new ShowClass();
        c.schedule = schedule;
        c.firstJudge = judgeClass.size();
        c.judges = judges;
        for (int n = 0; n < judges; n++) judgeClass.add(classes.size());
        classes.add(c);
        return classes.size() - 1;
    }

    int entry(int c) {
        if (!names(classes, c)) return UNKNOWN;
        if (classes.get(c).closed) return STATE;
        if (entryClass.size() == 60) return FULL;
        entryClass.add(c);
        return entryClass.size() - 1;
    }

    int prizes(int c, int first, int second, int third) {
        if (!names(classes, c)) return UNKNOWN;
        if (!in(first, 0, 1000000) || !in(second, 0, 1000000) || !in(third, 0, 1000000)) return OUTSIDE;
        if (classes.get(c).closed) return STATE;
        classes.get(c).prizes = new int[] {first, second, third};
        return 0;
    }

    int rule(int moment, int kind, int a) {
        if (!in(moment, 0, 3) || !List.of(2, 3, 5, 6, 8, 10).contains(kind)) return OUTSIDE;
        if (rules.size() == 24) return FULL;
        rules.add(new Rule(moment, kind, a));
        return rules.size() - 1;
    }

    int clearRules() {
        int n = rules.size();
        rules.clear();
        return n;
    }

    int observe(int n) {
        if (n < 0) return OUTSIDE;
        if (observers.size() == 6) return FULL;
        Observer o = new Observer();
        o.n = n;
        observers.add(o);
        return observers.size() - 1;
    }

    int begin(int j, int e) {
        if (!names(judgeClass, j) || !names(entryClass, e)) return UNKNOWN;
        if (!judgeClass.get(j).equals(entryClass.get(e))) return OUTSIDE;
        if (classes.get(entryClass.get(e)).closed) return STATE;
        if (scorings.size() == 8) return FULL;
        if (scorings.isEmpty()) atOutermostBegin = before();
        Scoring s = new Scoring();
        s.judge = j;
        s.entry = e;
        s.atBegin = state.copy();
        scorings.add(s);
        return scorings.size();
    }

    private int noEvent() {
        if (scorings.isEmpty()) return STATE;
        return state.events.size() == 400 ? FULL : 0;
    }

    int points(int n) {
        if (!in(n, -6000, 6000)) return OUTSIDE;
        if (noEvent() != 0) return noEvent();
        Scoring s = inner();
        state.mark[s.entry][s.judge] += n;
        state.events.add(new Event(0, s.judge, s.entry, n, true));
        return moment(0);
    }

    int deduct(int n) {
        if (!in(n, 0, 6000)) return OUTSIDE;
        if (noEvent() != 0) return noEvent();
        Scoring s = inner();
        state.off[s.entry] += n;
        state.events.add(new Event(1, s.judge, s.entry, n, true));
        return state.off[s.entry];
    }

    int remark(int k) {
        if (!in(k, 0, 7)) return OUTSIDE;
        if (noEvent() != 0) return noEvent();
        Scoring s = inner();
        state.remark[s.entry][k] = true;
        state.events.add(new Event(2, s.judge, s.entry, k, true));
        return Integer.bitCount(remarks(s.entry));
    }

    int save(int name) {
        if (!in(name, 0, 15)) return OUTSIDE;
        if (scorings.isEmpty()) return STATE;
        inner().savepoints.removeIf(p -> p.name() == name);
        inner().savepoints.add(new Savepoint(name, state.copy()));
        return moment(1);
    }

    int back(int name) {
        if (!in(name, 0, 15)) return OUTSIDE;
        if (scorings.isEmpty() || inner().find(name) < 0) return STATE;
        int k = inner().find(name);
        state = inner().savepoints.get(k).state().copy();
        inner().keep(k + 1);
        return k + 1;
    }

    int release(int name) {
        if (!in(name, 0, 15)) return OUTSIDE;
        if (scorings.isEmpty() || inner().find(name) < 0) return STATE;
        inner().keep(inner().find(name));
        return inner().savepoints.size();
    }

    int guard(int kind, int name) {
        if (!in(kind, 0, 11) || !in(name, 0, 15)) return OUTSIDE;
        if (scorings.isEmpty()) return STATE;
        if (inner().guards.size() == 8) return FULL;
        inner().guards.add(new Guard(kind, name));
        return inner().guards.size();
    }

    int end() {
        if (scorings.isEmpty()) return STATE;
        int outcome = moment(2);
        if (outcome != 0) return outcome;
        scorings.remove(scorings.size() - 1);
        if (!scorings.isEmpty()) return 0;
        acts++;
        undoable = atOutermostBegin;
        for (int o = 0; o < observers.size(); o++) {
            Observer observer = observers.get(o);
            tellings++;
            observer.told++;
            if (observer.told == observer.n) {
                outcome = 3;
                fails(11, -2 - o, -1, -1);
            }
        }
        return outcome;
    }

    int drop() {
        if (scorings.isEmpty()) return STATE;
        state = inner().atBegin;
        scorings.remove(scorings.size() - 1);
        return scorings.size();
    }

    int depth() {
        return scorings.size();
    }

    int scoring(int i, int what) {
        if (!names(scorings, i)) return UNKNOWN;
        if (what < 0) return OUTSIDE;
        Scoring s = scorings.get(scorings.size() - 1 - i);
        if (what < 4) return new int[] {s.judge, s.entry, s.savepoints.size(), s.guards.size()}[what];
        return names(s.savepoints, what - 4) ? s.savepoints.get(what - 4).name() : NONE;
    }

    private boolean holds(Rule r, Scoring s) {
        List<Event> events = state.events;
        long mark = state.mark[s.entry][s.judge];
        switch (r.kind()) {
            case 2: {
                if (events.isEmpty()) return false;
                Event latest = events.get(events.size() - 1);
                return latest.sort == 0 && (latest.number > r.a() || latest.number < -r.a());
            }
            case 3: {
                long n = events.stream().filter(v -> v.sort == 0 && v.judge == s.judge && v.entry == s.entry).count();
                return n >= 2 && n > r.a();
            }
            case 5: return mark > r.a();
            case 6: return mark < r.a();
            case 8: {
                int[] marks = sortedMarks(s.entry);
                return marks[marks.length - 1] - marks[0] > r.a();
            }
            default: return events.size() > r.a();
        }
    }

    private int fails(int kind, int rule, int cause, int under) {
        if (failures.size() < 200) {
            failures.add(new int[] {kind, rule, cause, under, scorings.size(), state.events.size()});
        }
        return failuresEver++;
    }

    private int moment(int moment) {
        for (int r = 0; r < rules.size(); r++) {
            if (rules.get(r).moment() == moment && holds(rules.get(r), inner())) {
                return fall(rules.get(r).kind(), fails(rules.get(r).kind(), r, -1, -1));
            }
        }
        return 0;
    }

    private int fall(int kind, int number) {
        Scoring s = inner();
        for (int g = s.guards.size() - 1; g >= 0; g--) {
            if (is(kind, s.guards.get(g).kind()) == 1) {
                int k = s.find(s.guards.get(g).name());
                state = (k < 0 ? s.atBegin : s.savepoints.get(k).state()).copy();
                s.keep(k + 1);
                caught++;
                return 2;
            }
        }
        for (int r = 0; r < rules.size(); r++) {
            if (rules.get(r).moment() == 3 && holds(rules.get(r), s)) {
                fails(rules.get(r).kind(), r, -1, number);
            }
        }
        drop();
        if (scorings.isEmpty()) return 1;
        int next = is(kind, 1) == 1 ? 4 : is(kind, 4) == 1 ? 7 : 9;
        return fall(next, fails(next, -1, number, -1));
    }

    private int remarks(int e) {
        int bits = 0;
        for (int k = 0; k < 8; k++) {
            if (state.remark[e][k]) bits += 1 << k;
        }
        return bits;
    }

    private int[] sortedMarks(int e) {
        ShowClass c = classes.get(entryClass.get(e));
        int[] marks = Arrays.copyOfRange(state.mark[e], c.firstJudge, c.firstJudge + c.judges);
        Arrays.sort(marks);
        return marks;
    }

    private static int rounded(double value) {
        return (int) Math.rint(value);
    }

    private int total(int e) {
        int[] m = sortedMarks(e);
        int sum = Arrays.stream(m).sum();
        int schedule = classes.get(entryClass.get(e)).schedule;
        if (schedule == 1) {
            sum = rounded((double) sum / m.length);
        } else if (schedule == 2) {
            sum = rounded((m[(m.length - 1) / 2] + m[m.length / 2]) / 2.0);
        } else if (schedule == 3 && m.length >= 3) {
            sum = sum - m[0] - m[m.length - 1];
        }
        return Math.max(0, sum - state.off[e]);
    }

    private long standing(int e) {
        long above = Arrays.stream(sortedMarks(e)).filter(m -> m > 0).count();
        return ((long) total(e) * 10000000 - state.off[e]) * 10 + above;
    }

    private List<Integer> entriesOf(int c) {
        List<Integer> list = new ArrayList<>();
        for (int e = 0; e < entryClass.size(); e++) {
            if (entryClass.get(e) == c) list.add(e);
        }
        return list;
    }

    private int[] ranks() {
        long[] standing = new long[entryClass.size()];
        for (int e = 0; e < standing.length; e++) standing[e] = standing(e);
        int[] ranks = new int[standing.length];
        for (int e = 0; e < ranks.length; e++) {
            ranks[e] = 1;
            for (int other : entriesOf(entryClass.get(e))) {
                if (standing[other] > standing[e]) ranks[e]++;
            }
        }
        return ranks;
    }

    private int prize(int e, int[] ranks) {
        ShowClass c = classes.get(entryClass.get(e));
        if (!c.closed) return 0;
        int t = 0;
        for (int other : entriesOf(entryClass.get(e))) {
            if (ranks[other] == ranks[e]) t++;
        }
        int sum = 0;
        for (int r = ranks[e]; r < ranks[e] + t; r++) {
            sum += r <= 3 ? c.prizes[r - 1] : 0;
        }
        return sum / t;
    }

    int told(int e, int what) {
        if (!names(entryClass, e)) return UNKNOWN;
        if (!in(what, 0, 6)) return OUTSIDE;
        if (what < 4) return new int[] {entryClass.get(e), total(e), state.off[e], remarks(e)}[what];
        int[] ranks = ranks();
        if (what == 4) return ranks[e];
        if (what == 6) return prize(e, ranks);
        return (int) entriesOf(entryClass.get(e)).stream().filter(other -> ranks[other] == ranks[e]).count();
    }

    int mark(int e, int j) {
        if (!names(entryClass, e) || !names(judgeClass, j)) return UNKNOWN;
        if (!judgeClass.get(j).equals(entryClass.get(e))) return OUTSIDE;
        return state.mark[e][j];
    }

    int place(int c, int i) {
        if (!names(classes, c)) return UNKNOWN;
        int[] ranks = ranks();
        List<Integer> list = entriesOf(c);
        list.sort((a, b) -> ranks[a] != ranks[b] ? ranks[a] - ranks[b] : a - b);
        return names(list, i) ? list.get(i) : NONE;
    }

    int close(int c) {
        if (!names(classes, c)) return UNKNOWN;
        if (!scorings.isEmpty() || classes.get(c).closed) return STATE;
        undoable = before();
        classes.get(c).closed = true;
        return entriesOf(c).size();
    }

    int about(int c, int what) {
        if (!names(classes, c)) return UNKNOWN;
        if (!in(what, 0, 5)) return OUTSIDE;
        ShowClass x = classes.get(c);
        int left = Arrays.stream(x.prizes).sum();
        int[] ranks = ranks();
        for (int e : entriesOf(c)) left -= prize(e, ranks);
        return new int[] {x.schedule, x.firstJudge, x.judges, entriesOf(c).size(), x.closed ? 1 : 0, left}[what];
    }

    int uphold(int i) {
        if (!names(state.events, i)) return UNKNOWN;
        Event v = state.events.get(i);
        if (!scorings.isEmpty() || !v.counts) return STATE;
        undoable = before();
        state.events.set(i, new Event(v.sort, v.judge, v.entry, v.number, false));
        if (v.sort == 0) state.mark[v.entry][v.judge] -= v.number;
        if (v.sort == 1) state.off[v.entry] -= v.number;
        if (v.sort == 2) {
            state.remark[v.entry][v.number] = state.events.stream().anyMatch(
                    w -> w.counts && w.sort == 2 && w.entry == v.entry && w.number == v.number);
        }
        classes.get(entryClass.get(v.entry)).closed = false;
        return 1;
    }

    int event(int i, int what) {
        if (!names(state.events, i)) return UNKNOWN;
        if (!in(what, 0, 4)) return OUTSIDE;
        Event v = state.events.get(i);
        return new int[] {v.sort, v.judge, v.entry, v.number, v.counts ? 1 : 0}[what];
    }

    int failure(int i, int what) {
        if (!names(failures, i)) return UNKNOWN;
        return in(what, 0, 5) ? failures.get(i)[what] : OUTSIDE;
    }

    int is(int a, int b) {
        if (!in(a, 0, 11) || !in(b, 0, 11)) return OUTSIDE;
        if (a == b || b == 0) return 1;
        return (b == 1 && (a == 2 || a == 3)) || (b == 4 && (a == 5 || a == 6))
                || (b == 7 && a == 8) || (b == 9 && a == 10) ? 1 : 0;
    }

    int undo() {
        if (!scorings.isEmpty() || undoable == null) return STATE;
        state = undoable.state();
        for (int c = 0; c < classes.size(); c++) classes.get(c).closed = undoable.closed()[c];
        undoable = null;
        return 1;
    }

    int count(int what) {
        if (!in(what, 0, 9)) return OUTSIDE;
        return new int[] {classes.size(), entryClass.size(), judgeClass.size(), rules.size(), observers.size(),
            state.events.size(), acts, failuresEver, caught, tellings}[what];
    }

    long digest() {
        List<Integer> numbers = new ArrayList<>();
        for (int e = 0; e < entryClass.size(); e++) {
            ShowClass c = classes.get(entryClass.get(e));
            for (int n = 0; n < c.judges; n++) numbers.add(state.mark[e][c.firstJudge + n]);
            numbers.add(state.off[e]);
            numbers.add(remarks(e));
        }
        for (int i = 0; i < state.events.size(); i++) {
            for (int what = 0; what <= 4; what++) numbers.add(event(i, what));
        }
        for (ShowClass c : classes) numbers.add(c.closed ? 1 : 0);
        numbers.add(scorings.size());
        numbers.add(scorings.stream().mapToInt(s -> s.savepoints.size()).sum());
        long h = 37;
        for (int n : numbers) h = 31 * h + n;
        return h;
    }
}
