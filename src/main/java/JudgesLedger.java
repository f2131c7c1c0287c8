/**
 * The ledger of a flower show: judges score entries in scorings that stand within one another.
 * Words in capitals in the comments are the document's. All rows are made by the constructors and
 * used again, so that no call makes an object.
 */
public final class JudgesLedger {
    public static final int NONE = -1, UNKNOWN = -101, OUTSIDE = -102, STATE = -103, FULL = -104;

    private static final int MOST_CLASSES = 12;
    private static final int MOST_SEATS = 5;
    private static final int MOST_JUDGES = MOST_CLASSES * MOST_SEATS;
    private static final int MOST_ENTRIES = 60;
    private static final int MOST_PRIZE = 1000000;
    private static final int PRIZES = 3;
    private static final int MOST_POINTS = 6000;
    private static final int REMARKS = 8;
    private static final int MOST_EVENTS = 400;
    private static final int MOST_SCORINGS = 8;
    private static final int MOST_GUARDS = 8;
    private static final int NAMES = 16;
    private static final int MOST_RULES = 24;
    private static final int MOST_FAILURES = 200;
    private static final int MOST_OBSERVERS = 6;

    private static final int SORT_POINTS = 0, SORT_DEDUCTION = 1, SORT_REMARK = 2;

    private static final int BEHIND_POINTS = 0, BEHIND_SAVE = 1, AT_END = 2, AT_FALL = 3;

    private static final int WELL = 0, DROPPED = 1, CAUGHT = 2, OBSERVER_THREW = 3;

    private static final int KINDS = 12;
    private static final int KIND_POINT = 1, KIND_RANGE = 2, KIND_TWICE = 3, KIND_ENTRY = 4;
    private static final int KIND_OVER = 5, KIND_UNDER = 6, KIND_CLASS = 7, KIND_SPREAD = 8;
    private static final int KIND_SHOW = 9, KIND_BUDGET = 10, KIND_HEARD = 11;
    /** For each KIND the one that it is; ANY is itself. */
    private static final int[] KIND_ABOVE = {0, 0, 1, 1, 0, 4, 4, 0, 7, 0, 9, 0};
    private static final int KIND_LEVELS = 3;

    private static final int UNDO_NOTHING = 0, UNDO_ACT = 1, UNDO_CLOSE = 2, UNDO_UPHOLD = 3;

    private final Show show = new Show();
    private final Sheet sheet = new Sheet(show);
    private final Placing placing = new Placing(show, sheet);
    private final RuleBook rules = new RuleBook();
    private final FailureBook failures = new FailureBook();
    private final Gallery gallery = new Gallery();
    private final Scoring[] scorings = new Scoring[MOST_SCORINGS];
    private int standing = 0;
    private int acts = 0;
    private int caught = 0;
    /** What undo() would undo, the number of it, and whether its CLASS was CLOSED ahead of it. */
    private int undoSort = UNDO_NOTHING;
    private int undoNumber = 0;
    private boolean undoClosed = false;

    public JudgesLedger() {
        for (int i = 0; i < MOST_SCORINGS; i++) {
            scorings[i] = new Scoring();
        }
    }

    // ---- the show

    public int show(int schedule, int judges) {
        if (schedule < 0 || schedule > 3 || judges < 1 || judges > MOST_SEATS) {
            return OUTSIDE;
        }
        if (show.classes >= MOST_CLASSES) {
            return FULL;
        }
        return show.addClass(schedule, judges);
    }

    public int entry(int c) {
        if (!show.hasClass(c)) {
            return UNKNOWN;
        }
        if (show.closed[c]) {
            return STATE;
        }
        if (show.entries >= MOST_ENTRIES) {
            return FULL;
        }
        return show.addEntry(c);
    }

    public int prizes(int c, int first, int second, int third) {
        if (!show.hasClass(c)) {
            return UNKNOWN;
        }
        if (!isPrize(first) || !isPrize(second) || !isPrize(third)) {
            return OUTSIDE;
        }
        if (show.closed[c]) {
            return STATE;
        }
        show.setPrizes(c, first, second, third);
        return 0;
    }

    public int rule(int moment, int kind, int a) {
        if (moment < BEHIND_POINTS || moment > AT_FALL || !isRuleKind(kind)) {
            return OUTSIDE;
        }
        if (rules.size >= MOST_RULES) {
            return FULL;
        }
        return rules.add(moment, kind, a);
    }

    public int clearRules() {
        int before = rules.size;
        rules.size = 0;
        return before;
    }

    public int observe(int n) {
        if (n < 0) {
            return OUTSIDE;
        }
        if (gallery.size >= MOST_OBSERVERS) {
            return FULL;
        }
        return gallery.add(n);
    }

    // ---- scorings

    public int begin(int j, int e) {
        if (!show.hasJudge(j) || !show.hasEntry(e)) {
            return UNKNOWN;
        }
        if (show.judgeClass[j] != show.entryClass[e]) {
            return OUTSIDE;
        }
        if (show.closed[show.entryClass[e]]) {
            return STATE;
        }
        if (standing >= MOST_SCORINGS) {
            return FULL;
        }
        scorings[standing].start(j, e, sheet.events);
        standing++;
        return standing;
    }

    public int points(int n) {
        if (n < -MOST_POINTS || n > MOST_POINTS) {
            return OUTSIDE;
        }
        int refusal = refusalOfEvent();
        if (refusal != WELL) {
            return refusal;
        }
        appendEvent(SORT_POINTS, n);
        return outcomeOf(BEHIND_POINTS);
    }

    public int deduct(int n) {
        if (n < 0 || n > MOST_POINTS) {
            return OUTSIDE;
        }
        int refusal = refusalOfEvent();
        if (refusal != WELL) {
            return refusal;
        }
        appendEvent(SORT_DEDUCTION, n);
        return sheet.offs[innermost().entry];
    }

    public int remark(int k) {
        if (k < 0 || k >= REMARKS) {
            return OUTSIDE;
        }
        int refusal = refusalOfEvent();
        if (refusal != WELL) {
            return refusal;
        }
        appendEvent(SORT_REMARK, k);
        return Integer.bitCount(sheet.remarkBits(innermost().entry));
    }

    public int save(int name) {
        if (!isName(name)) {
            return OUTSIDE;
        }
        if (standing == 0) {
            return STATE;
        }
        innermost().addSavepoint(name, sheet.events);
        return outcomeOf(BEHIND_SAVE);
    }

    public int back(int name) {
        if (!isName(name)) {
            return OUTSIDE;
        }
        int k = savepointNamed(name);
        if (k < 0) {
            return STATE;
        }
        Scoring s = innermost();
        sheet.cutTo(s.savepointAt[k]);
        s.savepoints = k + 1;
        return s.savepoints;
    }

    public int release(int name) {
        if (!isName(name)) {
            return OUTSIDE;
        }
        int k = savepointNamed(name);
        if (k < 0) {
            return STATE;
        }
        innermost().savepoints = k;
        return k;
    }

    public int guard(int kind, int name) {
        if (!isKind(kind) || !isName(name)) {
            return OUTSIDE;
        }
        if (standing == 0) {
            return STATE;
        }
        Scoring s = innermost();
        if (s.guards >= MOST_GUARDS) {
            return FULL;
        }
        s.addGuard(kind, name);
        return s.guards;
    }

    public int end() {
        if (standing == 0) {
            return STATE;
        }
        int outcome = outcomeOf(AT_END);
        if (outcome != WELL) {
            return outcome;
        }
        standing--;
        return standing == 0 ? finishAct(scorings[0].begunAt) : WELL;
    }

    public int drop() {
        if (standing == 0) {
            return STATE;
        }
        dropInnermost();
        return standing;
    }

    public int depth() {
        return standing;
    }

    public int scoring(int i, int what) {
        if (i < 0 || i >= standing) {
            return UNKNOWN;
        }
        if (what < 0) {
            return OUTSIDE;
        }
        Scoring s = scorings[standing - 1 - i];
        switch (what) {
            case 0: return s.judge;
            case 1: return s.entry;
            case 2: return s.savepoints;
            case 3: return s.guards;
            default: return what - 4 < s.savepoints ? s.savepointName[what - 4] : NONE;
        }
    }

    // ---- results

    public int told(int e, int what) {
        if (!show.hasEntry(e)) {
            return UNKNOWN;
        }
        switch (what) {
            case 0: return show.entryClass[e];
            case 1: return placing.totalOf(e);
            case 2: return sheet.offs[e];
            case 3: return sheet.remarkBits(e);
            case 4: return placing.rankOf(e);
            case 5: return placing.sharersOf(e);
            case 6: return placing.prizeOf(e);
            default: return OUTSIDE;
        }
    }

    public int mark(int e, int j) {
        if (!show.hasEntry(e) || !show.hasJudge(j)) {
            return UNKNOWN;
        }
        if (show.judgeClass[j] != show.entryClass[e]) {
            return OUTSIDE;
        }
        return sheet.markBy(e, j);
    }

    public int place(int c, int i) {
        if (!show.hasClass(c)) {
            return UNKNOWN;
        }
        return placing.entryAt(c, i);
    }

    public int close(int c) {
        if (!show.hasClass(c)) {
            return UNKNOWN;
        }
        if (standing > 0 || show.closed[c]) {
            return STATE;
        }
        keepForUndo(UNDO_CLOSE, c, false);
        show.closed[c] = true;
        return show.entriesOf(c);
    }

    public int about(int c, int what) {
        if (!show.hasClass(c)) {
            return UNKNOWN;
        }
        switch (what) {
            case 0: return show.schedule[c];
            case 1: return show.firstJudge[c];
            case 2: return show.seats[c];
            case 3: return show.entriesOf(c);
            case 4: return show.closed[c] ? 1 : 0;
            case 5: return placing.prizesLeft(c);
            default: return OUTSIDE;
        }
    }

    public int uphold(int i) {
        if (!sheet.hasEvent(i)) {
            return UNKNOWN;
        }
        if (standing > 0 || !sheet.counting[i]) {
            return STATE;
        }
        int c = show.entryClass[sheet.entry[i]];
        keepForUndo(UNDO_UPHOLD, i, show.closed[c]);
        sheet.setCounting(i, false);
        show.closed[c] = false;
        return 1;
    }

    public int event(int i, int what) {
        if (!sheet.hasEvent(i)) {
            return UNKNOWN;
        }
        switch (what) {
            case 0: return sheet.sort[i];
            case 1: return sheet.judge[i];
            case 2: return sheet.entry[i];
            case 3: return sheet.number[i];
            case 4: return sheet.counting[i] ? 1 : 0;
            default: return OUTSIDE;
        }
    }

    public int failure(int i, int what) {
        if (!failures.isNoted(i)) {
            return UNKNOWN;
        }
        if (what < 0 || what >= FailureBook.COLUMNS) {
            return OUTSIDE;
        }
        return failures.cells[i * FailureBook.COLUMNS + what];
    }

    public int is(int a, int b) {
        if (!isKind(a) || !isKind(b)) {
            return OUTSIDE;
        }
        return isOfKind(a, b) ? 1 : 0;
    }

    public int undo() {
        if (standing > 0 || undoSort == UNDO_NOTHING) {
            return STATE;
        }
        switch (undoSort) {
            case UNDO_ACT:
                sheet.cutTo(undoNumber);
                break;
            case UNDO_CLOSE:
                show.closed[undoNumber] = undoClosed;
                break;
            default:
                sheet.setCounting(undoNumber, true);
                show.closed[show.entryClass[sheet.entry[undoNumber]]] = undoClosed;
                break;
        }
        undoSort = UNDO_NOTHING;
        return 1;
    }

    public int count(int what) {
        switch (what) {
            case 0: return show.classes;
            case 1: return show.entries;
            case 2: return show.judges;
            case 3: return rules.size;
            case 4: return gallery.size;
            case 5: return sheet.events;
            case 6: return acts;
            case 7: return failures.ever;
            case 8: return caught;
            case 9: return gallery.tellings;
            default: return OUTSIDE;
        }
    }

    public long digest() {
        long h = digestOfEvents(digestOfEntries(37L));
        for (int c = 0; c < show.classes; c++) {
            h = 31L * h + (show.closed[c] ? 1 : 0);
        }
        int savepoints = 0;
        for (int i = 0; i < standing; i++) {
            savepoints += scorings[i].savepoints;
        }
        h = 31L * h + standing;
        return 31L * h + savepoints;
    }

    // ---- what the calls share

    private long digestOfEntries(long before) {
        long h = before;
        for (int e = 0; e < show.entries; e++) {
            int seats = show.seats[show.entryClass[e]];
            for (int seat = 0; seat < seats; seat++) {
                h = 31L * h + sheet.markAt(e, seat);
            }
            h = 31L * h + sheet.offs[e];
            h = 31L * h + sheet.remarkBits(e);
        }
        return h;
    }

    private long digestOfEvents(long before) {
        long h = before;
        for (int i = 0; i < sheet.events; i++) {
            h = 31L * h + sheet.sort[i];
            h = 31L * h + sheet.judge[i];
            h = 31L * h + sheet.entry[i];
            h = 31L * h + sheet.number[i];
            h = 31L * h + (sheet.counting[i] ? 1 : 0);
        }
        return h;
    }

    private static boolean isPrize(int n) {
        return n >= 0 && n <= MOST_PRIZE;
    }

    private static boolean isName(int name) {
        return name >= 0 && name < NAMES;
    }

    private static boolean isKind(int kind) {
        return kind >= 0 && kind < KINDS;
    }

    private static boolean isRuleKind(int kind) {
        return kind == KIND_RANGE || kind == KIND_TWICE || kind == KIND_OVER || kind == KIND_UNDER
                || kind == KIND_SPREAD || kind == KIND_BUDGET;
    }

    private static boolean isOfKind(int a, int b) {
        int kind = a;
        for (int level = 0; level < KIND_LEVELS; level++) {
            if (kind == b) {
                return true;
            }
            kind = KIND_ABOVE[kind];
        }
        return false;
    }

    /** Asked only while a SCORING stands. */
    private Scoring innermost() {
        return scorings[standing - 1];
    }

    private int savepointNamed(int name) {
        return standing == 0 ? NONE : innermost().indexOfSavepoint(name);
    }

    private int refusalOfEvent() {
        if (standing == 0) {
            return STATE;
        }
        return sheet.events >= MOST_EVENTS ? FULL : WELL;
    }

    private void appendEvent(int sort, int number) {
        Scoring s = innermost();
        sheet.append(sort, s.judge, s.entry, number);
    }

    private void dropInnermost() {
        sheet.cutTo(innermost().begunAt);
        standing--;
    }

    private int outcomeOf(int moment) {
        Scoring s = innermost();
        for (int r = 0; r < rules.size; r++) {
            if (rules.moment[r] == moment && rules.holds(r, s, sheet)) {
                return fail(rules.kind[r], r);
            }
        }
        return WELL;
    }

    /** Takes a FAILURE up from the innermost SCORING until one CATCHES it or none stands. */
    private int fail(int firstKind, int firstRule) {
        int kind = firstKind;
        int rule = firstRule;
        int cause = NONE;
        for (int left = standing; left > 0; left--) {
            int number = failures.add(kind, rule, cause, NONE, standing, sheet.events);
            if (letGuardCatch(kind)) {
                caught++;
                return CAUGHT;
            }
            suppressUnder(number);
            dropInnermost();
            kind = kindFurtherOut(kind);
            rule = NONE;
            cause = number;
        }
        return DROPPED;
    }

    /** Answers whether a GUARD of the innermost SCORING caught it. */
    private boolean letGuardCatch(int kind) {
        Scoring s = innermost();
        for (int g = s.guards - 1; g >= 0; g--) {
            if (isOfKind(kind, s.guardKind[g])) {
                int k = s.indexOfSavepoint(s.guardName[g]);
                sheet.cutTo(k < 0 ? s.begunAt : s.savepointAt[k]);
                s.savepoints = k + 1;
                return true;
            }
        }
        return false;
    }

    private void suppressUnder(int number) {
        Scoring s = innermost();
        for (int r = 0; r < rules.size; r++) {
            if (rules.moment[r] == AT_FALL && rules.holds(r, s, sheet)) {
                failures.add(rules.kind[r], r, NONE, number, standing, sheet.events);
            }
        }
    }

    private static int kindFurtherOut(int kind) {
        if (isOfKind(kind, KIND_POINT)) {
            return KIND_ENTRY;
        }
        return isOfKind(kind, KIND_ENTRY) ? KIND_CLASS : KIND_SHOW;
    }

    private int finishAct(int begunAt) {
        acts++;
        keepForUndo(UNDO_ACT, begunAt, false);
        int outcome = WELL;
        for (int o = 0; o < gallery.size; o++) {
            if (gallery.tell(o)) {
                failures.add(KIND_HEARD, -2 - o, NONE, NONE, standing, sheet.events);
                outcome = OBSERVER_THREW;
            }
        }
        return outcome;
    }

    private void keepForUndo(int sort, int number, boolean wasClosed) {
        undoSort = sort;
        undoNumber = number;
        undoClosed = wasClosed;
    }

    /** CLASSES, JUDGES, ENTRIES and PRIZES. */
    private static final class Show {
        final int[] schedule = new int[MOST_CLASSES];
        final int[] firstJudge = new int[MOST_CLASSES];
        final int[] seats = new int[MOST_CLASSES];
        final boolean[] closed = new boolean[MOST_CLASSES];
        final int[] prize = new int[MOST_CLASSES * PRIZES];
        final int[] judgeClass = new int[MOST_JUDGES];
        final int[] entryClass = new int[MOST_ENTRIES];
        int classes = 0;
        int judges = 0;
        int entries = 0;

        boolean hasClass(int c) {
            return c >= 0 && c < classes;
        }

        boolean hasJudge(int j) {
            return j >= 0 && j < judges;
        }

        boolean hasEntry(int e) {
            return e >= 0 && e < entries;
        }

        int addClass(int newSchedule, int newJudges) {
            int c = classes;
            schedule[c] = newSchedule;
            firstJudge[c] = judges;
            seats[c] = newJudges;
            for (int seat = 0; seat < newJudges; seat++) {
                judgeClass[judges + seat] = c;
            }
            judges += newJudges;
            classes++;
            return c;
        }

        int addEntry(int c) {
            int e = entries;
            entryClass[e] = c;
            entries++;
            return e;
        }

        void setPrizes(int c, int first, int second, int third) {
            prize[c * PRIZES] = first;
            prize[c * PRIZES + 1] = second;
            prize[c * PRIZES + 2] = third;
        }

        int entriesOf(int c) {
            int n = 0;
            for (int e = 0; e < entries; e++) {
                if (entryClass[e] == c) {
                    n++;
                }
            }
            return n;
        }
    }

    /**
     * THE STATE. MARKS, OFFS and REMARKS follow from the EVENTS that count, and a SCORING does
     * nothing but append EVENTS: so an earlier STATE is kept as how many EVENTS it had.
     */
    private static final class Sheet {
        private final Show show;
        final int[] sort = new int[MOST_EVENTS];
        final int[] judge = new int[MOST_EVENTS];
        final int[] entry = new int[MOST_EVENTS];
        final int[] number = new int[MOST_EVENTS];
        /** Never of a row behind the EVENTS: what is cut off is first made not to count. */
        final boolean[] counting = new boolean[MOST_EVENTS];
        int events = 0;
        final int[] offs = new int[MOST_ENTRIES];
        private final int[] marks = new int[MOST_ENTRIES * MOST_SEATS];
        /** How many EVENTS that count gave each REMARK: it is there while this is above 0. */
        private final int[] timesGiven = new int[MOST_ENTRIES * REMARKS];

        Sheet(Show show) {
            this.show = show;
        }

        boolean hasEvent(int i) {
            return i >= 0 && i < events;
        }

        void append(int newSort, int j, int e, int n) {
            int i = events;
            sort[i] = newSort;
            judge[i] = j;
            entry[i] = e;
            number[i] = n;
            events++;
            setCounting(i, true);
        }

        void cutTo(int n) {
            for (int i = events - 1; i >= n; i--) {
                setCounting(i, false);
                events = i;
            }
        }

        void setCounting(int i, boolean counts) {
            if (counting[i] == counts) {
                return;
            }
            counting[i] = counts;
            int sign = counts ? 1 : -1;
            if (sort[i] == SORT_POINTS) {
                marks[markIndex(entry[i], judge[i])] += sign * number[i];
            } else if (sort[i] == SORT_DEDUCTION) {
                offs[entry[i]] += sign * number[i];
            } else {
                timesGiven[entry[i] * REMARKS + number[i]] += sign;
            }
        }

        private int markIndex(int e, int j) {
            return e * MOST_SEATS + j - show.firstJudge[show.judgeClass[j]];
        }

        int markBy(int e, int j) {
            return marks[markIndex(e, j)];
        }

        int markAt(int e, int seat) {
            return marks[e * MOST_SEATS + seat];
        }

        int remarkBits(int e) {
            int bits = 0;
            for (int k = 0; k < REMARKS; k++) {
                if (timesGiven[e * REMARKS + k] > 0) {
                    bits |= 1 << k;
                }
            }
            return bits;
        }

        int greatestMark(int e) {
            int greatest = markAt(e, 0);
            for (int seat = 1; seat < show.seats[show.entryClass[e]]; seat++) {
                greatest = Math.max(greatest, markAt(e, seat));
            }
            return greatest;
        }

        int leastMark(int e) {
            int least = markAt(e, 0);
            for (int seat = 1; seat < show.seats[show.entryClass[e]]; seat++) {
                least = Math.min(least, markAt(e, seat));
            }
            return least;
        }

        int sumOfMarks(int e) {
            int sum = 0;
            for (int seat = 0; seat < show.seats[show.entryClass[e]]; seat++) {
                sum += markAt(e, seat);
            }
            return sum;
        }

        int marksAboveZero(int e) {
            int n = 0;
            for (int seat = 0; seat < show.seats[show.entryClass[e]]; seat++) {
                if (markAt(e, seat) > 0) {
                    n++;
                }
            }
            return n;
        }

        int timesPointed(int j, int e) {
            int n = 0;
            for (int i = 0; i < events; i++) {
                if (sort[i] == SORT_POINTS && judge[i] == j && entry[i] == e) {
                    n++;
                }
            }
            return n;
        }
    }

    /** A SCORING; the rows of SAVEPOINTS are long enough, since each NAME stands there once. */
    private static final class Scoring {
        int judge = 0;
        int entry = 0;
        int begunAt = 0;
        final int[] savepointName = new int[NAMES];
        final int[] savepointAt = new int[NAMES];
        int savepoints = 0;
        final int[] guardKind = new int[MOST_GUARDS];
        final int[] guardName = new int[MOST_GUARDS];
        int guards = 0;

        void start(int j, int e, int events) {
            judge = j;
            entry = e;
            begunAt = events;
            savepoints = 0;
            guards = 0;
        }

        int indexOfSavepoint(int name) {
            for (int k = 0; k < savepoints; k++) {
                if (savepointName[k] == name) {
                    return k;
                }
            }
            return NONE;
        }

        void addSavepoint(int name, int events) {
            int old = indexOfSavepoint(name);
            if (old >= 0) {
                removeSavepoint(old);
            }
            savepointName[savepoints] = name;
            savepointAt[savepoints] = events;
            savepoints++;
        }

        private void removeSavepoint(int k) {
            for (int i = k + 1; i < savepoints; i++) {
                savepointName[i - 1] = savepointName[i];
                savepointAt[i - 1] = savepointAt[i];
            }
            savepoints--;
        }

        void addGuard(int kind, int name) {
            guardKind[guards] = kind;
            guardName[guards] = name;
            guards++;
        }
    }

    /** RULES, by their numbers. */
    private static final class RuleBook {
        final int[] moment = new int[MOST_RULES];
        final int[] kind = new int[MOST_RULES];
        private final int[] limit = new int[MOST_RULES];
        int size = 0;

        int add(int newMoment, int newKind, int a) {
            int r = size;
            moment[r] = newMoment;
            kind[r] = newKind;
            limit[r] = a;
            size++;
            return r;
        }

        boolean holds(int r, Scoring s, Sheet sheet) {
            int a = limit[r];
            switch (kind[r]) {
                case KIND_RANGE:
                    return latestIsOutOfRange(a, sheet);
                case KIND_TWICE:
                    int times = sheet.timesPointed(s.judge, s.entry);
                    return times >= 2 && times > a;
                case KIND_OVER:
                    return sheet.markBy(s.entry, s.judge) > a;
                case KIND_UNDER:
                    return sheet.markBy(s.entry, s.judge) < a;
                case KIND_SPREAD:
                    return sheet.greatestMark(s.entry) - sheet.leastMark(s.entry) > a;
                case KIND_BUDGET:
                    return sheet.events > a;
                default:
                    return false;
            }
        }

        private static boolean latestIsOutOfRange(int a, Sheet sheet) {
            int latest = sheet.events - 1;
            if (latest < 0 || sheet.sort[latest] != SORT_POINTS) {
                return false;
            }
            // -a of the least int is no int
            return sheet.number[latest] > a || sheet.number[latest] < -(long) a;
        }
    }

    /** FAILURES, a row of cells each as failure() tells them; those behind the last row are counted alone. */
    private static final class FailureBook {
        static final int COLUMNS = 6;

        final int[] cells = new int[MOST_FAILURES * COLUMNS];
        int ever = 0;

        boolean isNoted(int i) {
            return i >= 0 && i < ever && i < MOST_FAILURES;
        }

        int add(int kind, int rule, int cause, int under, int scorings, int events) {
            int i = ever;
            ever++;
            if (isNoted(i)) {
                int cell = i * COLUMNS;
                cells[cell] = kind;
                cells[cell + 1] = rule;
                cells[cell + 2] = cause;
                cells[cell + 3] = under;
                cells[cell + 4] = scorings;
                cells[cell + 5] = events;
            }
            return i;
        }
    }

    /** OBSERVERS, by their numbers. */
    private static final class Gallery {
        private final int[] throwsAt = new int[MOST_OBSERVERS];
        private final int[] timesTold = new int[MOST_OBSERVERS];
        int size = 0;
        int tellings = 0;

        int add(int n) {
            int o = size;
            throwsAt[o] = n;
            size++;
            return o;
        }

        /** Answers whether the OBSERVER throws. */
        boolean tell(int o) {
            tellings++;
            timesTold[o]++;
            return timesTold[o] == throwsAt[o];
        }
    }

    /** TOTALS, RANKS and who gets which PRIZE. */
    private static final class Placing {
        private final Show show;
        private final Sheet sheet;
        private final int[] total = new int[MOST_ENTRIES];
        private final int[] aboveZero = new int[MOST_ENTRIES];
        private final int[] rank = new int[MOST_ENTRIES];
        private final int[] sorted = new int[MOST_SEATS];

        Placing(Show show, Sheet sheet) {
            this.show = show;
            this.sheet = sheet;
        }

        int totalOf(int e) {
            int seats = show.seats[show.entryClass[e]];
            int gained = sheet.sumOfMarks(e);
            switch (show.schedule[show.entryClass[e]]) {
                case 1:
                    gained = nearest(gained, seats);
                    break;
                case 2:
                    gained = middle(e, seats);
                    break;
                case 3:
                    gained -= seats < 3 ? 0 : sheet.greatestMark(e) + sheet.leastMark(e);
                    break;
                default:
                    break;
            }
            return Math.max(0, gained - sheet.offs[e]);
        }

        private int middle(int e, int seats) {
            sortMarks(e, seats);
            int upper = seats / 2;
            return seats % 2 == 1 ? sorted[upper] : nearest(sorted[upper - 1] + sorted[upper], 2);
        }

        private void sortMarks(int e, int seats) {
            for (int seat = 0; seat < seats; seat++) {
                int mark = sheet.markAt(e, seat);
                int k = seat;
                while (k > 0 && sorted[k - 1] > mark) {
                    sorted[k] = sorted[k - 1];
                    k--;
                }
                sorted[k] = mark;
            }
        }

        /** n by parts, rounded to the nearest, of two the even one. */
        private static int nearest(int n, int parts) {
            if (parts < 1) {
                return n;
            }
            int below = Math.floorDiv(n, parts);
            int twiceRest = 2 * Math.floorMod(n, parts);
            boolean up = twiceRest > parts || twiceRest == parts && below % 2 != 0;
            return up ? below + 1 : below;
        }

        int rankOf(int e) {
            rankClass(show.entryClass[e]);
            return rank[e];
        }

        int sharersOf(int e) {
            rankClass(show.entryClass[e]);
            return sharers(e);
        }

        int prizeOf(int e) {
            rankClass(show.entryClass[e]);
            return share(e);
        }

        int prizesLeft(int c) {
            rankClass(c);
            int left = prizesFrom(c, 1, PRIZES);
            for (int e = 0; e < show.entries; e++) {
                if (show.entryClass[e] == c) {
                    left -= share(e);
                }
            }
            return left;
        }

        int entryAt(int c, int i) {
            rankClass(c);
            for (int e = 0; e < show.entries; e++) {
                if (show.entryClass[e] == c && position(e) == i) {
                    return e;
                }
            }
            return NONE;
        }

        /** Fills the rows for the ENTRIES of a CLASS, so that a call asks for each TOTAL once. */
        private void rankClass(int c) {
            for (int e = 0; e < show.entries; e++) {
                if (show.entryClass[e] == c) {
                    total[e] = totalOf(e);
                    aboveZero[e] = sheet.marksAboveZero(e);
                }
            }
            for (int e = 0; e < show.entries; e++) {
                if (show.entryClass[e] == c) {
                    rank[e] = 1 + betterThan(e);
                }
            }
        }

        private int betterThan(int e) {
            int n = 0;
            for (int other = 0; other < show.entries; other++) {
                if (show.entryClass[other] == show.entryClass[e] && isBetter(other, e)) {
                    n++;
                }
            }
            return n;
        }

        private boolean isBetter(int a, int b) {
            if (total[a] != total[b]) {
                return total[a] > total[b];
            }
            if (sheet.offs[a] != sheet.offs[b]) {
                return sheet.offs[a] < sheet.offs[b];
            }
            return aboveZero[a] > aboveZero[b];
        }

        private int sharers(int e) {
            return sharersAheadOf(e, show.entries);
        }

        private int sharersAheadOf(int e, int end) {
            int n = 0;
            for (int other = 0; other < end; other++) {
                if (show.entryClass[other] == show.entryClass[e] && rank[other] == rank[e]) {
                    n++;
                }
            }
            return n;
        }

        private int position(int e) {
            return rank[e] - 1 + sharersAheadOf(e, e);
        }

        private int share(int e) {
            int c = show.entryClass[e];
            int t = sharers(e);
            if (!show.closed[c] || t < 1) {
                return 0;
            }
            return prizesFrom(c, rank[e], rank[e] + t - 1) / t;
        }

        private int prizesFrom(int c, int first, int last) {
            int sum = 0;
            for (int r = first; r <= last && r <= PRIZES; r++) {
                sum += show.prize[c * PRIZES + r - 1];
            }
            return sum;
        }
    }
}
