/** For each promise of the document: ordinary inputs, the edges that it names, and wrong inputs. */
public final class PromisesTest {
    private static final int NONE = -1, UNKNOWN = -101, OUTSIDE = -102, STATE = -103, FULL = -104;
    private static final int WELL = 0, DROPPED = 1, CAUGHT = 2, THREW = 3;
    private static final int MIN = Integer.MIN_VALUE, MAX = Integer.MAX_VALUE;

    private static int asked = 0;
    private static int wrong = 0;

    private static void due(String what, long got, long want) {
        asked++;
        if (got != want) {
            wrong++;
            System.out.println(what + " answered " + got + ", due is " + want);
        }
    }

    /** One CLASS of a SCHEDULE with so many JUDGES and ENTRIES. */
    private static JudgesLedger show(int schedule, int judges, int entries) {
        JudgesLedger x = new JudgesLedger();
        x.show(schedule, judges);
        for (int e = 0; e < entries; e++) {
            x.entry(0);
        }
        return x;
    }

    private static JudgesLedger scoring() {
        JudgesLedger x = show(0, 2, 2);
        x.begin(0, 0);
        return x;
    }

    private static void give(JudgesLedger x, int j, int e, int n) {
        x.begin(j, e);
        x.points(n);
        x.end();
    }

    private static void failureDue(JudgesLedger x, int i, int... row) {
        for (int what = 0; what < row.length; what++) {
            due("failure(" + i + ", " + what + ")", x.failure(i, what), row[what]);
        }
    }

    public static void main(String[] args) {
        newObject();
        shows();
        entries();
        prizes();
        rules();
        rulesHold();
        clearRules();
        observers();
        begin();
        points();
        deduct();
        remark();
        save();
        savedStatesMoveUp();
        momentOfSave();
        back();
        release();
        guard();
        guardsCatch();
        failuresGoUp();
        end();
        momentOfEnd();
        drop();
        depthAndScoring();
        told();
        totals();
        ranks();
        prizesAreShared();
        mark();
        place();
        close();
        about();
        uphold();
        event();
        failure();
        failuresAreFull();
        kinds();
        undo();
        undoUphold();
        count();
        digest();
        refusalsChangeNothing();
        System.out.println(asked + " answers asked, " + wrong + " not as due");
        if (wrong != 0) {
            System.exit(1);
        }
    }

    private static void newObject() {
        JudgesLedger x = new JudgesLedger();
        for (int what = 0; what <= 9; what++) {
            due("1: count(" + what + ")", x.count(what), 0);
        }
        due("1: depth", x.depth(), 0);
        due("1: undo", x.undo(), STATE);
        due("1: clearRules", x.clearRules(), 0);
        due("1: digest", x.digest(), 37L * 31 * 31);
        due("1: show", x.about(0, 0), UNKNOWN);
        due("1: event", x.event(0, 0), UNKNOWN);
        due("1: failure", x.failure(0, 0), UNKNOWN);
    }

    private static void shows() {
        JudgesLedger x = new JudgesLedger();
        int[][] bad = {{-1, 1}, {4, 1}, {0, 0}, {0, 6}, {0, -1}, {MIN, MIN}, {MAX, MAX}};
        for (int[] b : bad) {
            due("2: show(" + b[0] + ", " + b[1] + ")", x.show(b[0], b[1]), OUTSIDE);
        }
        for (int c = 0; c < 12; c++) {
            due("2: show", x.show(c % 4, c % 5 + 1), c);
        }
        due("2: full", x.show(0, 1), FULL);
        due("2: OUTSIDE ahead of FULL", x.show(4, 1), OUTSIDE);
        due("2: judges in all", x.count(2), 1 + 2 + 3 + 4 + 5 + 1 + 2 + 3 + 4 + 5 + 1 + 2);
        due("2: first judge of class 5", x.about(5, 1), 15);
        JudgesLedger most = new JudgesLedger();
        for (int c = 0; c < 12; c++) {
            most.show(0, 5);
        }
        most.entry(11);
        due("2: the last of 60 judges", most.begin(59, 0), 1);
        due("2: points by it", most.points(7), WELL);
        due("2: its mark", most.mark(0, 59), 7);
        due("2: no judge 60", most.begin(60, 0), UNKNOWN);
    }

    private static void entries() {
        JudgesLedger x = new JudgesLedger();
        due("3: no class", x.entry(0), UNKNOWN);
        x.show(0, 1);
        x.show(0, 1);
        due("3: class -1", x.entry(-1), UNKNOWN);
        due("3: class 2", x.entry(2), UNKNOWN);
        x.close(1);
        for (int e = 0; e < 60; e++) {
            due("3: entry", x.entry(0), e);
        }
        due("3: full", x.entry(0), FULL);
        due("3: STATE ahead of FULL", x.entry(1), STATE);
        due("3: UNKNOWN ahead of FULL", x.entry(2), UNKNOWN);
        due("3: entries of class 0", x.about(0, 3), 60);
        due("3: the last entry", x.told(59, 0), 0);
    }

    private static void prizes() {
        JudgesLedger x = show(0, 1, 4);
        due("4: at first", x.about(0, 5), 0);
        due("4: no class", x.prizes(1, 1, 1, 1), UNKNOWN);
        due("4: UNKNOWN ahead of OUTSIDE", x.prizes(-1, -1, 1, 1), UNKNOWN);
        due("4: first below", x.prizes(0, -1, 1, 1), OUTSIDE);
        due("4: second above", x.prizes(0, 1, 1000001, 1), OUTSIDE);
        due("4: third below", x.prizes(0, 1, 1, MIN), OUTSIDE);
        due("4: nothing changed", x.about(0, 5), 0);
        due("4: edges", x.prizes(0, 1000000, 0, 1000000), 0);
        due("4: kept", x.about(0, 5), 2000000);
        x.close(0);
        due("4: closed", x.prizes(0, 1, 1, 1), STATE);
        due("4: OUTSIDE ahead of STATE", x.prizes(0, 1, 1, -1), OUTSIDE);
    }

    private static void rules() {
        JudgesLedger x = new JudgesLedger();
        for (int kind = -1; kind <= 12; kind++) {
            boolean good = kind == 2 || kind == 3 || kind == 5 || kind == 6 || kind == 8 || kind == 10;
            int before = x.count(3);
            due("5: rule of kind " + kind, x.rule(0, kind, 0), good ? before : OUTSIDE);
        }
        due("5: moment -1", x.rule(-1, 2, 0), OUTSIDE);
        due("5: moment 4", x.rule(4, 2, 0), OUTSIDE);
        due("5: moment 3, any a", x.rule(3, 2, MIN), 6);
        for (int r = 7; r < 24; r++) {
            due("5: rule", x.rule(r % 4, 10, MAX), r);
        }
        due("5: full", x.rule(0, 2, 0), FULL);
        due("5: OUTSIDE ahead of FULL", x.rule(0, 1, 0), OUTSIDE);
        due("5: how many", x.count(3), 24);
    }

    /** The outcome of points(n) as the one rule of moment 0 makes it, with a GUARD for all. */
    private static void holds(String what, int kind, int a, int n, boolean want) {
        JudgesLedger x = scoring();
        x.guard(0, 0);
        x.rule(0, kind, a);
        due(what, x.points(n), want ? CAUGHT : WELL);
    }

    private static void rulesHold() {
        holds("RANGE at a", 2, 5, 5, false);
        holds("RANGE above a", 2, 5, 6, true);
        holds("RANGE at -a", 2, 5, -5, false);
        holds("RANGE below -a", 2, 5, -6, true);
        holds("RANGE of the least int", 2, MIN, 0, true);
        holds("RANGE of the greatest int", 2, MAX, -6000, false);
        holds("RANGE below 0", 2, -3, 0, true);
        holds("TWICE, once", 3, -1, 1, false);
        holds("OVER at a", 5, 7, 7, false);
        holds("OVER above a", 5, 7, 8, true);
        holds("UNDER at a", 6, 7, 7, false);
        holds("UNDER below a", 6, 7, 6, true);
        holds("SPREAD at a", 8, 4, 4, false);
        holds("SPREAD above a", 8, 4, -5, true);
        holds("SPREAD of one at the other's", 8, -1, 0, true);
        holds("BUDGET at a", 10, 1, 0, false);
        holds("BUDGET above a", 10, 0, 0, true);

        JudgesLedger five = show(0, 5, 60);
        five.rule(2, 8, 0);
        for (int e = 58; e < 60; e++) {
            for (int j = 0; j < 5; j++) {
                five.begin(j, e);
                five.points(e == 58 ? -3 : 3);
            }
            for (int j = 4; j >= 0; j--) {
                due("SPREAD: all the same, of its own marks", five.end(), WELL);
            }
        }

        JudgesLedger x = show(0, 2, 2);
        x.rule(0, 3, 2);
        x.begin(0, 0);
        due("TWICE: first", x.points(1), WELL);
        due("TWICE: second", x.points(1), WELL);
        x.begin(1, 0);
        due("TWICE: another judge", x.points(1), WELL);
        x.begin(0, 1);
        due("TWICE: another entry", x.points(1), WELL);
        x.drop();
        x.drop();
        due("TWICE: a deduction is none", x.deduct(1), 1);
        due("TWICE: third", x.points(1), DROPPED);
        failureDue(x, 0, 3, 0, -1, -1, 1, 4);

        JudgesLedger y = show(0, 2, 1);
        y.rule(1, 2, 0);
        y.begin(0, 0);
        due("RANGE: no event", y.save(0), WELL);
        y.points(1);
        y.deduct(6);
        due("RANGE: the latest is a deduction", y.save(0), WELL);
        y.points(1);
        y.begin(1, 0);
        due("RANGE: the latest, of another scoring", y.save(0), DROPPED);
    }

    private static void clearRules() {
        JudgesLedger x = scoring();
        x.rule(0, 2, 0);
        x.rule(0, 10, 0);
        due("6: how many", x.clearRules(), 2);
        due("6: none left", x.count(3), 0);
        due("6: they are gone", x.points(9), WELL);
        due("6: numbers begin anew", x.rule(0, 5, 100), 0);
        due("6: the new one alone", x.points(9), WELL);
        due("6: again", x.clearRules(), 1);
        due("6: none", x.clearRules(), 0);
    }

    private static void observers() {
        JudgesLedger x = show(0, 1, 1);
        due("7: below 0", x.observe(-1), OUTSIDE);
        due("7: least", x.observe(MIN), OUTSIDE);
        due("7: never", x.observe(0), 0);
        due("7: second", x.observe(2), 1);
        give(x, 0, 0, 1);
        due("7: a later one counts its own", x.observe(1), 2);
        due("7: another", x.observe(1), 3);
        due("7: greatest", x.observe(MAX), 4);
        due("7: sixth", x.observe(0), 5);
        due("7: full", x.observe(0), FULL);
        due("7: OUTSIDE ahead of FULL", x.observe(-1), OUTSIDE);
        x.begin(0, 0);
        x.points(1);
        due("7: three throw", x.end(), THREW);
        due("7: all are noted", x.count(7), 3);
        failureDue(x, 0, 11, -3, -1, -1, 0, 2);
        failureDue(x, 1, 11, -4, -1, -1, 0, 2);
        failureDue(x, 2, 11, -5, -1, -1, 0, 2);
        due("7: the others are told", x.count(9), 2 + 6);
        due("7: the ledger stays", x.mark(0, 0), 2);
        due("7: none is caught", x.count(8), 0);
        x.begin(0, 0);
        due("7: only at the n-th", x.end(), WELL);
        x.begin(0, 0);
        x.drop();
        due("7: not told of what is dropped", x.count(9), 2 + 6 + 6);
    }

    private static void begin() {
        JudgesLedger x = show(0, 2, 2);
        x.show(0, 1);
        x.entry(1);
        due("8: judge -1", x.begin(-1, 0), UNKNOWN);
        due("8: judge 3", x.begin(3, 0), UNKNOWN);
        due("8: entry -1", x.begin(0, -1), UNKNOWN);
        due("8: entry 3", x.begin(0, 3), UNKNOWN);
        due("8: another class", x.begin(0, 2), OUTSIDE);
        due("8: another class", x.begin(2, 0), OUTSIDE);
        x.close(1);
        due("8: closed", x.begin(2, 2), STATE);
        for (int n = 1; n <= 8; n++) {
            due("8: begin", x.begin(n % 2, n % 2), n);
        }
        due("8: full", x.begin(0, 0), FULL);
        due("8: STATE ahead of FULL", x.begin(2, 2), STATE);
        due("8: OUTSIDE ahead of STATE", x.begin(0, 2), OUTSIDE);
        due("8: UNKNOWN ahead of FULL", x.begin(9, 0), UNKNOWN);
        x.points(5);
        x.save(1);
        x.guard(1, 1);
        x.drop();
        x.begin(0, 0);
        due("8: a new one has no savepoints", x.scoring(0, 2), 0);
        due("8: a new one has no guards", x.scoring(0, 3), 0);
    }

    private static void points() {
        JudgesLedger x = show(0, 1, 1);
        due("9: no scoring", x.points(1), STATE);
        due("9: OUTSIDE ahead of STATE", x.points(6001), OUTSIDE);
        x.begin(0, 0);
        due("9: below", x.points(-6001), OUTSIDE);
        due("9: least", x.points(MIN), OUTSIDE);
        due("9: lower edge", x.points(-6000), WELL);
        due("9: upper edge", x.points(6000), WELL);
        due("9: sum", x.mark(0, 0), 0);
        for (int n = 2; n < 400; n++) {
            x.points(6000);
        }
        due("9: the greatest mark", x.mark(0, 0), 398 * 6000);
        due("9: full", x.points(1), FULL);
        due("9: OUTSIDE ahead of FULL", x.points(-6001), OUTSIDE);
        due("9: deduct full", x.deduct(1), FULL);
        due("9: remark full", x.remark(1), FULL);
        due("9: events", x.count(5), 400);
        x.rule(1, 10, 399);
        due("9: dropped when full", x.save(0), DROPPED);
        due("9: all are gone", x.count(5), 0);
    }

    private static void deduct() {
        JudgesLedger x = show(0, 1, 2);
        due("10: no scoring", x.deduct(1), STATE);
        due("10: OUTSIDE ahead of STATE", x.deduct(-1), OUTSIDE);
        x.begin(0, 1);
        due("10: above", x.deduct(6001), OUTSIDE);
        due("10: lower edge", x.deduct(0), 0);
        due("10: upper edge", x.deduct(6000), 6000);
        due("10: sum", x.deduct(5), 6005);
        due("10: of its entry alone", x.told(0, 2), 0);
        due("10: an event each", x.count(5), 3);
        x.rule(0, 10, 0);
        due("10: no moment", x.deduct(1), 6006);
    }

    private static void remark() {
        JudgesLedger x = show(0, 1, 2);
        due("11: no scoring", x.remark(0), STATE);
        due("11: OUTSIDE ahead of STATE", x.remark(8), OUTSIDE);
        x.begin(0, 1);
        due("11: below", x.remark(-1), OUTSIDE);
        due("11: first", x.remark(7), 1);
        due("11: already", x.remark(7), 1);
        due("11: second", x.remark(0), 2);
        due("11: bits", x.told(1, 3), 129);
        due("11: of its entry alone", x.told(0, 3), 0);
        due("11: an event each", x.count(5), 3);
        x.save(3);
        x.remark(7);
        x.remark(4);
        x.back(3);
        due("11: back keeps what was there", x.told(1, 3), 129);
    }

    private static void save() {
        JudgesLedger x = show(0, 1, 1);
        due("12: no scoring", x.save(0), STATE);
        due("12: OUTSIDE ahead of STATE", x.save(16), OUTSIDE);
        x.begin(0, 0);
        due("12: below", x.save(-1), OUTSIDE);
        for (int name = 0; name < 16; name++) {
            due("12: save", x.save(name), WELL);
        }
        due("12: sixteen", x.scoring(0, 2), 16);
        x.points(5);
        due("12: again", x.save(3), WELL);
        due("12: the old one went", x.scoring(0, 2), 16);
        due("12: the next moved up", x.scoring(0, 4 + 3), 4);
        due("12: the latest", x.scoring(0, 4 + 15), 3);
        x.points(5);
        due("12: back to the new one", x.back(3), 16);
        due("12: its state", x.mark(0, 0), 5);
        due("12: one that moved up keeps its state", x.back(15), 15);
        due("12: the state of 15", x.mark(0, 0), 0);
        x.points(8);
        due("12: the first again", x.save(0), WELL);
        due("12: it is the latest now", x.scoring(0, 4 + 14), 0);
        due("12: the second is the first", x.scoring(0, 4), 1);
        x.begin(0, 0);
        due("12: of the innermost alone", x.scoring(0, 2), 0);
        due("12: STATE there", x.back(3), STATE);
    }

    private static void savedStatesMoveUp() {
        JudgesLedger x = scoring();
        for (int name = 1; name <= 4; name++) {
            x.points(1);
            x.save(name);
        }
        x.save(1);
        due("12: back to 3, that moved up", x.back(3), 2);
        due("12: the state of 3", x.mark(0, 0), 3);
        due("12: back to 2, that moved up", x.back(2), 1);
        due("12: the state of 2", x.mark(0, 0), 2);
    }

    private static void momentOfSave() {
        JudgesLedger x = scoring();
        x.rule(1, 5, 10);
        due("12: no rule of points()", x.points(11), WELL);
        x.guard(5, 2);
        due("12: caught, the savepoint is there", x.save(2), CAUGHT);
        due("12: it stays", x.scoring(0, 2), 1);
        due("12: and the state", x.mark(0, 0), 11);
        due("12: caught by name 2, later go", x.save(4), CAUGHT);
        due("12: one is left", x.scoring(0, 2), 1);
        x.release(2);
        due("12: no savepoint of that name", x.save(5), CAUGHT);
        due("12: all go", x.scoring(0, 2), 0);
        due("12: the state at begin", x.mark(0, 0), 0);
    }

    private static void back() {
        JudgesLedger x = show(0, 2, 2);
        due("13: no scoring", x.back(0), STATE);
        due("13: OUTSIDE ahead of STATE", x.back(16), OUTSIDE);
        x.begin(0, 0);
        due("13: below", x.back(-1), OUTSIDE);
        due("13: no such", x.back(1), STATE);
        x.points(1);
        x.save(1);
        x.points(2);
        x.deduct(3);
        x.save(2);
        x.remark(4);
        x.save(3);
        due("13: to the latest", x.back(3), 3);
        due("13: nothing went", x.told(0, 3), 16);
        due("13: to the middle one", x.back(2), 2);
        due("13: the remark went", x.told(0, 3), 0);
        due("13: the deduction did not", x.told(0, 2), 3);
        due("13: those behind went", x.back(3), STATE);
        due("13: to the first", x.back(1), 1);
        due("13: mark", x.mark(0, 0), 1);
        due("13: off", x.told(0, 2), 0);
        due("13: events", x.count(5), 1);
        due("13: it stays", x.back(1), 1);
        x.begin(1, 1);
        x.points(9);
        x.end();
        due("13: an ended inner one goes too", x.back(1), 1);
        due("13: its mark", x.mark(1, 1), 0);
    }

    private static void release() {
        JudgesLedger x = show(0, 1, 1);
        due("14: no scoring", x.release(0), STATE);
        due("14: OUTSIDE ahead of STATE", x.release(-1), OUTSIDE);
        x.begin(0, 0);
        due("14: above", x.release(16), OUTSIDE);
        due("14: no such", x.release(0), STATE);
        x.save(1);
        x.points(2);
        x.save(2);
        x.points(3);
        x.save(3);
        due("14: the middle one", x.release(2), 1);
        due("14: the state stays", x.mark(0, 0), 5);
        due("14: those behind went", x.release(3), STATE);
        due("14: the first", x.release(1), 0);
        due("14: none left", x.scoring(0, 2), 0);
    }

    private static void guard() {
        JudgesLedger x = show(0, 1, 1);
        due("15: no scoring", x.guard(0, 0), STATE);
        due("15: OUTSIDE ahead of STATE", x.guard(12, 0), OUTSIDE);
        x.begin(0, 0);
        due("15: kind below", x.guard(-1, 0), OUTSIDE);
        due("15: name above", x.guard(0, 16), OUTSIDE);
        due("15: name below", x.guard(0, -1), OUTSIDE);
        for (int g = 0; g < 8; g++) {
            due("15: guard", x.guard(g == 0 ? 11 : g, 15), g + 1);
        }
        due("15: full", x.guard(0, 0), FULL);
        due("15: OUTSIDE ahead of FULL", x.guard(0, 16), OUTSIDE);
        due("15: how many", x.scoring(0, 3), 8);
        x.begin(0, 0);
        due("15: of the innermost alone", x.guard(0, 0), 1);
    }

    private static void guardsCatch() {
        JudgesLedger x = scoring();
        x.rule(0, 5, 10);
        x.rule(0, 2, 20);
        x.save(1);
        x.points(1);
        x.save(2);
        x.points(1);
        x.save(3);
        x.guard(4, 1);
        x.guard(0, 2);
        x.guard(1, 3);
        x.guard(6, 3);
        due("the first rule by number, the latest guard of its kind", x.points(21), CAUGHT);
        due("state of savepoint 2", x.mark(0, 0), 1);
        due("those behind go", x.scoring(0, 2), 2);
        due("guards stay", x.scoring(0, 3), 4);
        failureDue(x, 0, 5, 0, -1, -1, 1, 3);
        due("one failure", x.count(7), 1);
        due("one caught", x.count(8), 1);
        due("events", x.count(5), 1);
        x.clearRules();
        x.rule(0, 2, 20);
        due("no savepoint 3: the begin", x.points(-21), CAUGHT);
        due("all savepoints go", x.scoring(0, 2), 0);
        due("mark at begin", x.mark(0, 0), 0);
        due("two caught", x.count(8), 2);
        due("it still stands", x.depth(), 1);
    }

    private static void failuresGoUp() {
        JudgesLedger x = show(0, 2, 2);
        x.rule(3, 10, 0);
        x.rule(0, 2, 5);
        x.rule(3, 6, 100);
        x.begin(0, 0);
        x.points(1);
        x.guard(7, 4);
        x.save(4);
        x.points(2);
        x.begin(1, 1);
        x.guard(1, 0);
        x.points(3);
        x.begin(0, 1);
        x.guard(3, 0);
        due("caught two steps out", x.points(6), CAUGHT);
        due("one stands", x.depth(), 1);
        due("seven failures", x.count(7), 7);
        failureDue(x, 0, 2, 1, -1, -1, 3, 4);
        failureDue(x, 1, 10, 0, -1, 0, 3, 4);
        failureDue(x, 2, 6, 2, -1, 0, 3, 4);
        failureDue(x, 3, 4, -1, 0, -1, 2, 3);
        failureDue(x, 4, 10, 0, -1, 3, 2, 3);
        failureDue(x, 5, 6, 2, -1, 3, 2, 3);
        failureDue(x, 6, 7, -1, 3, -1, 1, 2);
        due("no more", x.failure(7, 0), UNKNOWN);
        due("one caught", x.count(8), 1);
        due("state of savepoint 4", x.mark(0, 0), 1);
        due("nothing of the others", x.mark(1, 1), 0);
        due("events", x.count(5), 1);

        int[][] chains = {{2, 4, 7, 9, 9}, {3, 4, 7, 9, 9}, {5, 7, 9, 9, 9}, {6, 7, 9, 9, 9}, {8, 9, 9, 9, 9}, {10, 9, 9, 9, 9}};
        for (int[] chain : chains) {
            JudgesLedger y = show(0, 2, 1);
            for (int n = 0; n < 5; n++) {
                y.begin(0, 0);
            }
            y.points(1);
            y.rule(0, chain[0], chain[0] == 6 ? 100 : 0);
            due("dropped", y.points(1), DROPPED);
            due("none stands", y.depth(), 0);
            due("no act", y.count(6), 0);
            for (int i = 0; i < 5; i++) {
                failureDue(y, i, chain[i], i == 0 ? 0 : -1, i - 1, -1, 5 - i, i == 0 ? 2 : 0);
            }
        }
    }

    private static void end() {
        JudgesLedger x = show(0, 2, 2);
        due("16: no scoring", x.end(), STATE);
        x.observe(1);
        x.begin(0, 0);
        x.save(1);
        x.begin(1, 1);
        x.points(5);
        due("16: an inner one", x.end(), WELL);
        due("16: it is gone", x.depth(), 1);
        due("16: what it did stays", x.mark(1, 1), 5);
        due("16: no act yet", x.count(6), 0);
        due("16: not told", x.count(9), 0);
        due("16: the outer one's savepoints stay", x.scoring(0, 2), 1);
        due("16: the outermost one", x.end(), THREW);
        due("16: an act", x.count(6), 1);
        due("16: the ledger stays", x.mark(1, 1), 5);
        due("16: again", x.end(), STATE);
        x.begin(0, 0);
        due("16: one that did nothing is an act", x.end(), WELL);
        due("16: two acts", x.count(6), 2);
    }

    private static void momentOfEnd() {
        JudgesLedger x = show(0, 2, 1);
        x.rule(2, 6, 3);
        x.observe(1);
        x.begin(0, 0);
        x.guard(6, 0);
        due("16: points() is another moment", x.points(2), WELL);
        due("16: caught", x.end(), CAUGHT);
        due("16: it stands", x.depth(), 1);
        due("16: the state at begin", x.mark(0, 0), 0);
        x.points(3);
        x.begin(1, 0);
        due("16: asked of the innermost; caught further out is not, of CLASS", x.end(), DROPPED);
        failureDue(x, 1, 6, 0, -1, -1, 2, 1);
        failureDue(x, 2, 7, -1, 1, -1, 1, 1);
        due("16: nobody is told", x.count(9), 0);
        due("16: no act", x.count(6), 0);
        due("16: nothing to undo", x.undo(), STATE);
    }

    private static void drop() {
        JudgesLedger x = show(0, 2, 2);
        due("17: no scoring", x.drop(), STATE);
        x.begin(0, 0);
        x.points(1);
        x.begin(1, 1);
        x.points(2);
        x.deduct(3);
        x.remark(4);
        due("17: the inner one", x.drop(), 1);
        due("17: mark", x.mark(1, 1), 0);
        due("17: off", x.told(1, 2), 0);
        due("17: remarks", x.told(1, 3), 0);
        due("17: events", x.count(5), 1);
        due("17: the outer one's stay", x.mark(0, 0), 1);
        due("17: no failure", x.count(7), 0);
        due("17: the outermost one", x.drop(), 0);
        due("17: its mark", x.mark(0, 0), 0);
        due("17: no act", x.count(6), 0);
    }

    private static void depthAndScoring() {
        JudgesLedger x = show(0, 2, 2);
        due("18: none", x.depth(), 0);
        due("19: none", x.scoring(0, 0), UNKNOWN);
        x.begin(0, 0);
        x.save(7);
        x.save(5);
        x.guard(1, 2);
        x.begin(1, 1);
        due("18: two", x.depth(), 2);
        due("19: innermost judge", x.scoring(0, 0), 1);
        due("19: innermost entry", x.scoring(0, 1), 1);
        due("19: outer judge", x.scoring(1, 0), 0);
        due("19: outer entry", x.scoring(1, 1), 0);
        due("19: savepoints", x.scoring(1, 2), 2);
        due("19: guards", x.scoring(1, 3), 1);
        due("19: first name", x.scoring(1, 4), 7);
        due("19: second name", x.scoring(1, 5), 5);
        due("19: no third", x.scoring(1, 6), NONE);
        due("19: none of the innermost", x.scoring(0, 4), NONE);
        due("19: far", x.scoring(1, MAX), NONE);
        due("19: below", x.scoring(1, -1), OUTSIDE);
        due("19: i = 2", x.scoring(2, 0), UNKNOWN);
        due("19: i = -1, UNKNOWN first", x.scoring(-1, -1), UNKNOWN);
    }

    private static void told() {
        JudgesLedger x = show(0, 1, 1);
        x.show(0, 2);
        x.entry(1);
        due("20: entry -1", x.told(-1, 0), UNKNOWN);
        due("20: entry 2, UNKNOWN first", x.told(2, 7), UNKNOWN);
        due("20: what -1", x.told(0, -1), OUTSIDE);
        due("20: what 7", x.told(0, 7), OUTSIDE);
        due("20: class", x.told(1, 0), 1);
        x.begin(2, 1);
        x.points(9);
        x.deduct(2);
        x.remark(3);
        due("20: total", x.told(1, 1), 7);
        due("20: off", x.told(1, 2), 2);
        due("20: remarks", x.told(1, 3), 8);
        due("20: rank in its class alone", x.told(0, 4), 1);
        due("20: how many in its class alone", x.told(0, 5), 1);
    }

    private static void totalDue(int schedule, int want, int... marks) {
        JudgesLedger x = show(schedule, marks.length, 1);
        for (int j = 0; j < marks.length; j++) {
            give(x, j, 0, marks[j]);
        }
        due("20: total by " + schedule + " of " + java.util.Arrays.toString(marks), x.told(0, 1), want);
    }

    private static void totals() {
        totalDue(0, 12, 3, 4, 5);
        totalDue(0, 0, 3, -4);
        totalDue(1, 4, 3, 4, 5);
        totalDue(1, 2, 2, 3);
        totalDue(1, 4, 3, 4);
        totalDue(1, 1, 1, 0, 1);
        totalDue(1, 0, 1, 0, 0);
        totalDue(1, 2, 2, 2, 2, 2, 1);
        totalDue(1, 2, 1, 1, 2, 2);
        totalDue(1, 0, 0, 1, 0, 1);
        totalDue(1, 7, 7);
        totalDue(2, 9, 9);
        totalDue(2, 4, 9, 1, 4);
        totalDue(2, 2, 9, 2, 3, 0);
        totalDue(2, 4, 9, 3, 4, 0);
        totalDue(2, 2, 2, 3);
        totalDue(2, 3, 5, 3, -6, 3, 100);
        totalDue(2, 0, -5, -3, 100);
        totalDue(3, 4, 9, 1, 4);
        totalDue(3, 10, 9, 1);
        totalDue(3, 9, 9);
        totalDue(3, 5, 5, 5, 5);
        totalDue(3, 9, 2, 3, 4, 1, 100);
        totalDue(3, 0, -2, -3, 100);

        for (int schedule = 0; schedule < 4; schedule++) {
            JudgesLedger five = show(schedule, 5, 60);
            int[] want = {60, 12, 12, 36};
            for (int j = 0; j < 5; j++) {
                give(five, j, 58, 14 - j);
                give(five, 4 - j, 59, 14 - j);
            }
            give(five, 0, 57, 60);
            due("20: its own marks alone", five.told(58, 1), want[schedule]);
            due("20: those of the last entry", five.told(59, 1), want[schedule]);
        }

        JudgesLedger x = show(1, 2, 1);
        x.begin(0, 0);
        x.points(5);
        x.deduct(1);
        due("20: off behind the rounding", x.told(0, 1), 1);
        x.deduct(1);
        due("20: off, to 0", x.told(0, 1), 0);
        x.deduct(1);
        due("20: 0 at least", x.told(0, 1), 0);
    }

    private static void ranks() {
        JudgesLedger x = show(0, 3, 6);
        x.begin(0, 0);
        x.points(10);
        x.begin(0, 1);
        x.points(12);
        x.deduct(2);
        x.begin(0, 2);
        x.points(5);
        x.begin(1, 2);
        x.points(5);
        x.begin(0, 3);
        x.points(11);
        x.begin(2, 4);
        x.points(10);
        int[] rank = {3, 5, 2, 1, 3, 6};
        int[] sharers = {2, 1, 1, 1, 2, 1};
        int[] places = {3, 2, 0, 4, 1, 5};
        for (int e = 0; e < 6; e++) {
            due("20: rank of " + e, x.told(e, 4), rank[e]);
            due("20: sharers of " + e, x.told(e, 5), sharers[e]);
            due("22: place " + e, x.place(0, e), places[e]);
        }
        due("20: no prize while open", x.told(3, 6), 0);

        JudgesLedger full = show(0, 5, 60);
        full.prizes(0, 7, 0, 0);
        for (int j = 0; j < 5; j++) {
            give(full, j, 58, 2);
            give(full, j, 59, j == 0 ? 10 : 0);
            give(full, j, 57, j == 0 ? 10 : 0);
        }
        full.close(0);
        due("20: more judges", full.told(58, 4), 1);
        due("20: sharers at once, no rank asked ahead", full.told(59, 5), 2);
        due("20: rank of the last", full.told(59, 4), 2);
        due("22: by number", full.place(0, 1), 57);
        due("22: by number", full.place(0, 2), 59);
        due("22: those with nothing", full.place(0, 3), 0);
        due("22: the last place", full.place(0, 59), 56);
        due("22: no more", full.place(0, 60), NONE);
        due("24: one is given", full.about(0, 5), 0);

        JudgesLedger y = show(0, 2, 2);
        y.begin(0, 0);
        y.points(-5);
        y.begin(1, 1);
        y.points(5);
        y.deduct(5);
        due("20: totals of 0, a lesser off", y.told(0, 4), 1);
        due("20: totals of 0, a greater off", y.told(1, 4), 2);
    }

    private static void prizesAreShared() {
        JudgesLedger x = show(0, 1, 5);
        x.prizes(0, 100, 51, 20);
        give(x, 0, 0, 9);
        give(x, 0, 1, 7);
        give(x, 0, 2, 7);
        give(x, 0, 3, 7);
        due("24: open, all left", x.about(0, 5), 171);
        x.close(0);
        int[] prize = {100, 23, 23, 23, 0};
        for (int e = 0; e < 5; e++) {
            due("20: prize of " + e, x.told(e, 6), prize[e]);
        }
        due("24: what the cut leaves", x.about(0, 5), 2);

        JudgesLedger first = show(0, 1, 3);
        first.prizes(0, 9, 0, 0);
        give(first, 0, 2, 1);
        first.close(0);
        due("24: left, asked first", first.about(0, 5), 0);
        first.uphold(0);
        first.close(0);
        due("20: a prize, no rank asked ahead", first.told(2, 6), 3);
        due("20: three share", first.told(0, 6), 3);

        JudgesLedger fresh = show(0, 1, 2);
        give(fresh, 0, 1, 1);
        due("20: sharers, asked first", fresh.told(1, 5), 1);

        JudgesLedger y = show(0, 1, 2);
        y.prizes(0, 11, 6, 4);
        y.close(0);
        due("20: two first ones", y.told(0, 6), 8);
        due("20: two first ones", y.told(1, 6), 8);
        due("24: the third and the cut", y.about(0, 5), 5);

        JudgesLedger z = show(0, 1, 0);
        z.prizes(0, 1, 2, 3);
        z.close(0);
        due("24: no entries", z.about(0, 5), 6);
    }

    private static void mark() {
        JudgesLedger x = show(0, 2, 2);
        x.show(0, 2);
        x.entry(1);
        give(x, 1, 1, 5);
        give(x, 1, 1, -7);
        give(x, 3, 2, 4);
        due("21: sum", x.mark(1, 1), -2);
        due("21: another judge", x.mark(1, 0), 0);
        due("21: another entry", x.mark(0, 1), 0);
        due("21: second class", x.mark(2, 3), 4);
        due("21: second class", x.mark(2, 2), 0);
        due("21: another class", x.mark(2, 1), OUTSIDE);
        due("21: another class", x.mark(0, 2), OUTSIDE);
        due("21: entry 3", x.mark(3, 0), UNKNOWN);
        due("21: entry -1", x.mark(-1, 0), UNKNOWN);
        due("21: judge 4", x.mark(0, 4), UNKNOWN);
        due("21: judge -1", x.mark(0, -1), UNKNOWN);
    }

    private static void place() {
        JudgesLedger x = show(0, 1, 1);
        x.show(0, 1);
        x.entry(1);
        x.entry(0);
        x.entry(1);
        x.entry(0);
        give(x, 0, 2, 3);
        give(x, 1, 3, 4);
        int[] places = {2, 0, 4, NONE};
        for (int i = 0; i < 4; i++) {
            due("22: place " + i, x.place(0, i), places[i]);
        }
        due("22: second class", x.place(1, 0), 3);
        due("22: second class", x.place(1, 1), 1);
        due("22: i = -1", x.place(0, -1), NONE);
        due("22: greatest", x.place(0, MAX), NONE);
        due("22: least", x.place(0, MIN), NONE);
        due("22: class 2", x.place(2, 0), UNKNOWN);
        due("22: class -1", x.place(-1, -1), UNKNOWN);
    }

    private static void close() {
        JudgesLedger x = show(0, 1, 2);
        x.show(0, 1);
        due("23: class 2", x.close(2), UNKNOWN);
        due("23: class -1", x.close(-1), UNKNOWN);
        x.begin(0, 0);
        due("23: a scoring stands", x.close(1), STATE);
        due("23: UNKNOWN ahead of STATE", x.close(2), UNKNOWN);
        x.drop();
        due("23: how many entries", x.close(0), 2);
        due("23: already", x.close(0), STATE);
        due("23: none", x.close(1), 0);
        due("23: it is closed", x.about(0, 4), 1);
    }

    private static void about() {
        JudgesLedger x = show(0, 3, 2);
        x.show(3, 2);
        x.entry(1);
        x.close(1);
        int[] want = {3, 3, 2, 1, 1, 0};
        for (int what = 0; what < 6; what++) {
            due("24: about(1, " + what + ")", x.about(1, what), want[what]);
        }
        due("24: class 0 is open", x.about(0, 4), 0);
        due("24: what -1", x.about(0, -1), OUTSIDE);
        due("24: what 6", x.about(0, 6), OUTSIDE);
        due("24: class 2, UNKNOWN first", x.about(2, 6), UNKNOWN);
        due("24: class -1", x.about(-1, 0), UNKNOWN);
    }

    private static void uphold() {
        JudgesLedger x = show(0, 1, 2);
        x.begin(0, 0);
        x.points(5);
        x.points(6);
        x.deduct(3);
        x.remark(2);
        x.remark(2);
        x.begin(0, 1);
        x.remark(2);
        x.end();
        due("25: a scoring stands", x.uphold(0), STATE);
        due("25: UNKNOWN ahead of STATE", x.uphold(6), UNKNOWN);
        x.end();
        x.close(0);
        due("25: event -1", x.uphold(-1), UNKNOWN);
        due("25: event 6", x.uphold(6), UNKNOWN);
        due("25: points", x.uphold(0), 1);
        due("25: mark", x.mark(0, 0), 6);
        due("25: open", x.about(0, 4), 0);
        due("25: the event stays", x.count(5), 6);
        due("25: it does not count", x.event(0, 4), 0);
        due("25: already", x.uphold(0), STATE);
        due("25: deduction", x.uphold(2), 1);
        due("25: off", x.told(0, 2), 0);
        due("25: a remark that another gave", x.uphold(3), 1);
        due("25: it stays", x.told(0, 3), 4);
        due("25: the last one", x.uphold(4), 1);
        due("25: it goes", x.told(0, 3), 0);
        due("25: not another entry's", x.told(1, 3), 4);
        due("25: no act", x.count(6), 1);

        x.rule(0, 3, 2);
        x.begin(0, 0);
        due("25: rules see it still", x.points(1), DROPPED);
        x.clearRules();
        x.rule(1, 10, 5);
        x.begin(0, 0);
        due("25: BUDGET too", x.save(0), DROPPED);
        x.clearRules();
        x.rule(1, 2, 5);
        x.begin(0, 0);
        x.points(6);
        x.end();
        x.uphold(6);
        x.begin(0, 0);
        due("25: RANGE too", x.save(0), DROPPED);
        due("25: the mark is not", x.mark(0, 0), 6);
    }

    private static void event() {
        JudgesLedger x = show(0, 1, 1);
        x.show(0, 2);
        x.entry(1);
        x.begin(2, 1);
        x.points(-5);
        x.deduct(6);
        x.remark(7);
        int[][] want = {{0, 2, 1, -5, 1}, {1, 2, 1, 6, 1}, {2, 2, 1, 7, 1}};
        for (int i = 0; i < 3; i++) {
            for (int what = 0; what < 5; what++) {
                due("26: event(" + i + ", " + what + ")", x.event(i, what), want[i][what]);
            }
        }
        due("26: event 3", x.event(3, 0), UNKNOWN);
        due("26: event -1, UNKNOWN first", x.event(-1, 9), UNKNOWN);
        due("26: what -1", x.event(0, -1), OUTSIDE);
        due("26: what 5", x.event(0, 5), OUTSIDE);
        x.drop();
        due("26: dropped", x.event(0, 0), UNKNOWN);
    }

    private static void failure() {
        JudgesLedger x = scoring();
        due("27: none", x.failure(0, 0), UNKNOWN);
        x.rule(0, 2, 1);
        x.points(2);
        failureDue(x, 0, 2, 0, -1, -1, 1, 1);
        due("27: what -1", x.failure(0, -1), OUTSIDE);
        due("27: what 6", x.failure(0, 6), OUTSIDE);
        due("27: failure 1, UNKNOWN first", x.failure(1, 6), UNKNOWN);
        due("27: failure -1", x.failure(-1, 0), UNKNOWN);
        x.clearRules();
        due("27: its rule is kept", x.failure(0, 1), 0);
    }

    private static void failuresAreFull() {
        JudgesLedger x = show(0, 1, 1);
        x.rule(0, 2, 0);
        for (int r = 0; r < 23; r++) {
            x.rule(3, 10, 0);
        }
        for (int n = 0; n < 9; n++) {
            x.begin(0, 0);
            x.points(1);
        }
        due("27: more are counted", x.count(7), 216);
        due("27: the 200th is noted", x.failure(199, 3), 192);
        due("27: the 201st is not", x.failure(200, 0), UNKNOWN);
        x.begin(0, 0);
        x.guard(0, 0);
        due("27: caught all the same", x.points(1), CAUGHT);
        due("27: counted", x.count(7), 217);
        due("27: as caught", x.count(8), 1);
    }

    private static void kinds() {
        String[] of = {"0", "01", "012", "013", "04", "045", "046", "07", "078", "09", "09a", "0b"};
        for (int a = 0; a < 12; a++) {
            for (int b = 0; b < 12; b++) {
                boolean want = of[a].indexOf(Character.forDigit(b, 16)) >= 0;
                due("28: is(" + a + ", " + b + ")", new JudgesLedger().is(a, b), want ? 1 : 0);
            }
        }
        int[][] bad = {{-1, 0}, {12, 0}, {0, -1}, {0, 12}, {MIN, MAX}};
        for (int[] b : bad) {
            due("28: is(" + b[0] + ", " + b[1] + ")", new JudgesLedger().is(b[0], b[1]), OUTSIDE);
        }
    }

    private static void undo() {
        JudgesLedger x = show(0, 2, 2);
        x.observe(2);
        give(x, 0, 0, 5);
        x.begin(0, 0);
        due("29: a scoring stands", x.undo(), STATE);
        x.points(1);
        x.begin(1, 1);
        x.deduct(2);
        x.remark(3);
        x.end();
        due("29: an act of which one threw", x.end(), THREW);
        due("29: act", x.undo(), 1);
        due("29: events", x.count(5), 1);
        due("29: mark", x.mark(0, 0), 5);
        due("29: off", x.told(1, 2), 0);
        due("29: remarks", x.told(1, 3), 0);
        due("29: acts ever", x.count(6), 2);
        due("29: failures stay", x.count(7), 1);
        due("29: only the latest", x.undo(), STATE);
        due("29: the first stays", x.mark(0, 0), 5);
        give(x, 0, 1, 7);
        x.begin(0, 1);
        x.points(8);
        x.drop();
        x.entry(0);
        due("29: a dropped one is none", x.undo(), 1);
        due("29: mark", x.mark(1, 0), 0);
        due("29: entries stay", x.count(1), 3);
        give(x, 0, 1, 7);
        x.close(0);
        due("29: close", x.undo(), 1);
        due("29: open", x.about(0, 4), 0);
        due("29: the act ahead of it stays", x.mark(1, 0), 7);
        due("29: undone", x.undo(), STATE);
    }

    private static void undoUphold() {
        JudgesLedger x = show(0, 1, 1);
        x.begin(0, 0);
        x.points(5);
        x.remark(1);
        x.deduct(2);
        x.end();
        x.close(0);
        long closed = x.digest();
        for (int i = 0; i < 3; i++) {
            x.uphold(i);
            due("29: uphold", x.undo(), 1);
            due("29: as ahead of it", x.digest(), closed);
            due("29: closed again", x.about(0, 4), 1);
            due("29: counts again", x.event(i, 4), 1);
        }
        x.uphold(0);
        x.uphold(2);
        due("29: the second", x.undo(), 1);
        due("29: off", x.told(0, 2), 2);
        due("29: the first stays", x.mark(0, 0), 0);
        due("29: open as ahead of the second", x.about(0, 4), 0);
    }

    private static void count() {
        JudgesLedger x = show(0, 3, 2);
        x.rule(0, 2, 5);
        x.observe(0);
        x.observe(1);
        give(x, 0, 0, 5);
        give(x, 0, 0, 4);
        x.begin(0, 0);
        x.guard(0, 0);
        x.points(6);
        x.deduct(1);
        int[] want = {1, 2, 3, 1, 2, 3, 2, 2, 1, 4};
        for (int what = 0; what < 10; what++) {
            due("30: count(" + what + ")", x.count(what), want[what]);
        }
        due("30: what -1", x.count(-1), OUTSIDE);
        due("30: what 10", x.count(10), OUTSIDE);
    }

    private static long digestOf(long... numbers) {
        long h = 37;
        for (long n : numbers) {
            h = 31 * h + n;
        }
        return h;
    }

    private static void digest() {
        JudgesLedger x = show(0, 2, 1);
        x.show(0, 1);
        x.entry(1);
        x.close(1);
        due("31: no event", x.digest(), digestOf(0, 0, 0, 0, 0, 0, 0, 0, 1, 0, 0));
        x.begin(1, 0);
        x.points(-9);
        x.save(1);
        x.save(2);
        x.begin(0, 0);
        x.remark(2);
        x.save(1);
        due("31: two scorings", x.digest(),
                digestOf(0, -9, 0, 4, 0, 0, 0, 0, 1, 0, -9, 1, 2, 0, 0, 2, 1, 0, 1, 2, 3));
        x.end();
        x.end();
        x.uphold(0);
        due("31: upheld", x.digest(),
                digestOf(0, 0, 0, 4, 0, 0, 0, 0, 1, 0, -9, 0, 2, 0, 0, 2, 1, 0, 1, 0, 0));
    }

    private static void refusalsChangeNothing() {
        JudgesLedger x = scoring();
        x.show(0, 1);
        x.points(4);
        x.save(1);
        x.guard(1, 1);
        long before = x.digest();
        x.points(6001);
        x.deduct(-1);
        x.remark(8);
        x.save(16);
        x.back(2);
        x.release(2);
        x.guard(12, 0);
        x.begin(2, 0);
        x.close(0);
        x.uphold(0);
        x.undo();
        x.show(9, 9);
        x.entry(9);
        x.rule(9, 9, 9);
        x.observe(-1);
        due("refusals: digest", x.digest(), before);
        int[] want = {2, 2, 3, 0, 0, 1, 0, 0, 0, 0};
        for (int what = 0; what < 10; what++) {
            due("refusals: count(" + what + ")", x.count(what), want[what]);
        }
        due("refusals: guards", x.scoring(0, 3), 1);
    }
}
