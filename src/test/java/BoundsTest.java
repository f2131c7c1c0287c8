import java.math.BigInteger;
import java.util.ArrayList;
import java.util.List;
import java.util.Set;
import java.util.TreeSet;

/**
 * For each sentence of the document that names a boundary case a test of its own: the last value inside
 * the bound, the first one outside it, and, of each call that is refused, that nothing has changed by it.
 */
public final class BoundsTest {
    private static final int PROMISES = 31;

    /** One CLASS, one JUDGE, one ENTRY. */
    private static final String ONE = "show(0,1) entry(0) ";
    private static final String IN = ONE + "begin(0,0) ";
    /** Of all that is kept something, no SCORING, CLASS 2 CLOSED last. */
    private static final String MUCH = "show(0,2) show(1,3) show(2,1) 3*entry(0) 2*entry(1) entry(2)"
            + " prizes(0,100,51,20) prizes(1,7,5,3) prizes(2,9,0,0) observe(0) observe(7) observe(1) begin(0,0)"
            + " points(5) deduct(2) remark(3) end()=THREW begin(2,3) points(4) begin(3,4) points(2) end()=WELL"
            + " end()=WELL rule(1,5,50) rule(0,2,100) rule(2,6,-50) rule(3,10,0) begin(0,1) save(1) guard(0,1)"
            + " points(101)=CAUGHT points(7)=WELL end()=WELL begin(1,0) points(-101)=DROPPED begin(5,5) points(3)"
            + " remark(1) end()=WELL close(2)=1 ";
    private static final String UPHELD = MUCH + "uphold(0)=1 uphold(3)=1 ";
    private static final String ACTED = UPHELD + "begin(1,0) remark(3) points(6) end()=WELL ";
    private static final String WITHIN = ACTED + "begin(0,0) save(2) points(3) save(5) guard(1,5) guard(4,2)"
            + " guard(0,9) begin(1,2) points(2) save(0) deduct(4) save(7) guard(2,0) guard(6,7) ";

    /** The order in which every call tells its refusals. */
    private static final String[] REFUSALS = {"UNKNOWN", "OUTSIDE", "STATE", "FULL"};

    private static final Set<Integer> promises = new TreeSet<>();
    /** Calls and refusals that were seen, such as "entry FULL". */
    private static final Set<String> refused = new TreeSet<>();
    private static int promise = 0;
    private static int sentences = 0;
    private static int answers = 0;
    private static int refusals = 0;
    private static int wrong = 0;

    private static void promise(int number) {
        promise = number;
    }

    /** Each run is one on a new object. */
    private static void bound(String sentence, String... runs) {
        promises.add(promise);
        sentences++;
        for (String run : runs) {
            List<Calls.Call> calls = Calls.parse(run);
            must(calls.size() <= Calls.MOST, sentence, "the run has " + calls.size() + " calls");
            answersAreDue(sentence, calls);
            refusalsChangeNothing(sentence, calls);
        }
    }

    private static void must(boolean holds, String sentence, String otherwise) {
        if (!holds) {
            wrong++;
            System.out.println("promise " + promise + ", " + sentence + ": " + otherwise);
        }
    }

    private static void answersAreDue(String sentence, List<Calls.Call> calls) {
        JudgesLedger x = new JudgesLedger();
        for (int n = 0; n < calls.size(); n++) {
            Calls.Call call = calls.get(n);
            long got = call.on(x);
            if (call.due() == null) {
                must(got > -101, sentence, "call " + n + ", " + call.text() + " was refused: " + got);
            } else {
                answers++;
                must(got == call.due(), sentence,
                        "call " + n + ", " + call.text() + " answered " + got + ", due is " + call.due());
            }
        }
    }

    private static void refusalsChangeNothing(String sentence, List<Calls.Call> calls) {
        List<Calls.Call> granted = new ArrayList<>();
        for (Calls.Call call : calls) {
            if (!call.refused()) {
                granted.add(call);
                continue;
            }
            refusals++;
            refused.add(call.name() + " " + REFUSALS[(int) (JudgesLedger.UNKNOWN - call.due())]);
            List<Calls.Call> with = new ArrayList<>(granted);
            with.add(call);
            String difference = Twins.difference(with, granted);
            must(difference == null, sentence, call.text() + " changed something: " + difference);
        }
    }

    public static void main(String[] args) {
        newObject();
        shows();
        classesAtMost();
        entries();
        prizes();
        rules();
        rulesHold();
        moments();
        clearRules();
        observers();
        begin();
        points();
        pointsThrow();
        failuresGoUp();
        deduct();
        remark();
        save();
        back();
        release();
        guard();
        end();
        drop();
        depth();
        scoring();
        told();
        totals();
        ranks();
        prizesAreShared();
        mark();
        place();
        close();
        about();
        uphold();
        event();
        failure();
        failuresAtMost();
        kinds();
        undo();
        undoOfEach();
        count();
        digest();
        refusedWhileIdle();
        refusedWhileScoring();
        refusedWhenFull();
        for (int n = 1; n <= PROMISES; n++) {
            must(promises.contains(n), "promise " + n, "has no test");
        }
        readmeTellsTheRefusals();
        System.out.println(sentences + " sentences, " + answers + " answers asked, " + refusals + " refusals, "
                + wrong + " not as due");
        if (wrong != 0) {
            System.exit(1);
        }
    }

    private static void readmeTellsTheRefusals() {
        for (String[] row : Readme.table("Call")) {
            String name = Readme.nameOf(row);
            StringBuilder due = new StringBuilder(name).append(':');
            for (String refusal : REFUSALS) {
                due.append(refused.contains(name + " " + refusal) ? " " + refusal : "");
            }
            if (!Readme.refusals().contains(due.toString())) {
                wrong++;
                System.out.println("README.md does not tell of " + due);
            }
        }
    }

    private static void newObject() {
        promise(1);
        bound("no CLASSES",
                "count(0)=0 count(1)=0 count(2)=0 about(0,0)=UNKNOWN entry(0)=UNKNOWN prizes(0,0,0,0)=UNKNOWN"
                        + " place(0,0)=UNKNOWN close(0)=UNKNOWN begin(0,0)=UNKNOWN told(0,0)=UNKNOWN"
                        + " mark(0,0)=UNKNOWN");
        bound("no RULES", "count(3)=0 clearRules()=0 " + IN + "points(6000)=WELL save(0)=WELL end()=WELL count(7)=0");
        bound("no OBSERVERS", "count(4)=0 " + IN + "end()=WELL count(9)=0");
        bound("no SCORING",
                "depth()=0 scoring(0,0)=UNKNOWN points(0)=STATE deduct(0)=STATE remark(0)=STATE save(0)=STATE"
                        + " back(0)=STATE release(0)=STATE guard(0,0)=STATE end()=STATE drop()=STATE");
        bound("nothing to undo", "undo()=STATE " + ONE + "undo()=STATE");
        bound("no EVENTS, no FAILURES",
                "count(5)=0 count(6)=0 count(7)=0 count(8)=0 event(0,0)=UNKNOWN uphold(0)=UNKNOWN"
                        + " failure(0,0)=UNKNOWN");
        bound("at most 512 calls, the last one too", IN + "400*points(1) 108*depth() mark(0,0)=400");
    }

    private static void shows() {
        promise(2);
        bound("a SCHEDULE (0 to 3)",
                "show(0,1)=0 show(3,1)=1 about(0,0)=0 about(1,0)=3",
                "show(-1,1)=OUTSIDE show(4,1)=OUTSIDE show(MIN,1)=OUTSIDE show(MAX,1)=OUTSIDE show(1,1)=0"
                        + " count(0)=1");
        bound("1 to 5 JUDGES",
                "show(0,1)=0 show(0,5)=1 about(0,2)=1 about(1,2)=5 count(2)=6",
                "show(0,0)=OUTSIDE show(0,6)=OUTSIDE show(0,-1)=OUTSIDE show(0,MIN)=OUTSIDE show(0,MAX)=OUTSIDE"
                        + " count(0)=0 count(2)=0");
        bound("JUDGES, numbered from 0 on in all, CLASS by CLASS",
                "show(0,5) show(0,1) show(0,3) about(0,1)=0 about(1,1)=5 about(2,1)=6 count(2)=9 entry(0) entry(1)"
                        + " entry(2) begin(4,0)=1 begin(5,0)=OUTSIDE begin(4,1)=OUTSIDE begin(5,1)=2"
                        + " begin(6,1)=OUTSIDE begin(6,2)=3 begin(8,2)=4 begin(9,2)=UNKNOWN");
        bound("OPEN (at first)", "show(0,1) about(0,4)=0 entry(0)=0 begin(0,0)=1");
        bound("three PRIZES (0 at first)", ONE + "about(0,5)=0 close(0) told(0,6)=0 about(0,5)=0");
    }

    private static void classesAtMost() {
        promise(2);
        bound("FULL: CLASSES (12 at most, numbered from 0 on)",
                "11*show(0,1) show(3,5)=11 show(0,1)=FULL show(3,5)=FULL count(0)=12 count(2)=16");
        bound("OUTSIDE ahead of FULL",
                "12*show(0,5) show(-1,1)=OUTSIDE show(4,1)=OUTSIDE show(0,0)=OUTSIDE show(0,6)=OUTSIDE"
                        + " show(0,1)=FULL");
        bound("the last of the most JUDGES",
                "12*show(0,5) entry(11) about(11,1)=55 begin(54,0)=OUTSIDE begin(55,0)=1 begin(59,0)=2"
                        + " begin(60,0)=UNKNOWN points(3)=WELL mark(0,59)=3 mark(0,55)=0 mark(0,60)=UNKNOWN");
        bound("a CLASS may come while a SCORING stands", IN + "show(0,2)=1 about(1,1)=1 depth()=1");
    }

    private static void entries() {
        promise(3);
        bound("UNKNOWN",
                "entry(0)=UNKNOWN show(0,1) entry(-1)=UNKNOWN entry(1)=UNKNOWN entry(MIN)=UNKNOWN"
                        + " entry(MAX)=UNKNOWN entry(0)=0 count(1)=1");
        bound("STATE: it is CLOSED", "show(0,1) show(0,1) close(0)=0 entry(0)=STATE entry(1)=0 undo()=1 entry(0)=1");
        bound("FULL: ENTRIES (60 in all, numbered)",
                "show(0,1) show(0,1) 30*entry(1) 29*entry(0) entry(0)=59 entry(0)=FULL entry(1)=FULL count(1)=60"
                        + " about(0,3)=30 about(1,3)=30 told(59,0)=0 told(60,0)=UNKNOWN");
        bound("numbered in all, not in a CLASS", "show(0,1) show(0,1) entry(1)=0 entry(0)=1 entry(1)=2 told(1,0)=0");
        bound("UNKNOWN ahead of STATE ahead of FULL",
                "show(0,1) show(0,1) close(1) 60*entry(0) entry(2)=UNKNOWN entry(1)=STATE entry(0)=FULL");
    }

    private static void prizes() {
        promise(4);
        bound("UNKNOWN",
                "prizes(0,1,1,1)=UNKNOWN show(0,1) prizes(-1,1,1,1)=UNKNOWN prizes(1,1,1,1)=UNKNOWN"
                        + " prizes(MIN,1,1,1)=UNKNOWN prizes(MAX,1,1,1)=UNKNOWN prizes(0,1,1,1)=0");
        bound("OUTSIDE: one is not 0 to 1000000: the first",
                "show(0,1) prizes(0,0,5,5)=0 about(0,5)=10 prizes(0,1000000,5,5)=0 prizes(0,-1,7,7)=OUTSIDE"
                        + " prizes(0,1000001,7,7)=OUTSIDE prizes(0,MIN,7,7)=OUTSIDE prizes(0,MAX,7,7)=OUTSIDE"
                        + " about(0,5)=1000010");
        bound("OUTSIDE: the second",
                "show(0,1) prizes(0,5,0,5)=0 about(0,5)=10 prizes(0,5,1000000,5)=0 prizes(0,7,-1,7)=OUTSIDE"
                        + " prizes(0,7,1000001,7)=OUTSIDE prizes(0,7,MIN,7)=OUTSIDE prizes(0,7,MAX,7)=OUTSIDE"
                        + " about(0,5)=1000010");
        bound("OUTSIDE: the third",
                "show(0,1) prizes(0,5,5,0)=0 about(0,5)=10 prizes(0,5,5,1000000)=0 prizes(0,7,7,-1)=OUTSIDE"
                        + " prizes(0,7,7,1000001)=OUTSIDE prizes(0,7,7,MIN)=OUTSIDE prizes(0,7,7,MAX)=OUTSIDE"
                        + " about(0,5)=1000010");
        bound("all three at their greatest", "show(0,1) prizes(0,1000000,1000000,1000000)=0 about(0,5)=3000000");
        bound("STATE: it is CLOSED",
                ONE + "prizes(0,4,2,1) close(0) prizes(0,9,9,9)=STATE told(0,6)=4 about(0,5)=3 undo()=1"
                        + " prizes(0,9,9,9)=0 about(0,5)=27");
        bound("UNKNOWN ahead of OUTSIDE ahead of STATE",
                "show(0,1) close(0) prizes(1,-1,0,0)=UNKNOWN prizes(0,-1,0,0)=OUTSIDE prizes(0,0,0,0)=STATE");
    }

    private static void rules() {
        promise(5);
        bound("OUTSIDE: MOMENT (0 to 3)",
                "rule(0,2,0)=0 rule(3,2,0)=1 rule(-1,2,0)=OUTSIDE rule(4,2,0)=OUTSIDE rule(MIN,2,0)=OUTSIDE"
                        + " rule(MAX,2,0)=OUTSIDE count(3)=2");
        bound("OUTSIDE: a KIND 2, 3, 5, 6, 8 or 10",
                "rule(0,2,0)=0 rule(0,3,0)=1 rule(0,5,0)=2 rule(0,6,0)=3 rule(0,8,0)=4 rule(0,10,0)=5",
                "rule(0,-1,0)=OUTSIDE rule(0,0,0)=OUTSIDE rule(0,1,0)=OUTSIDE rule(0,4,0)=OUTSIDE"
                        + " rule(0,7,0)=OUTSIDE rule(0,9,0)=OUTSIDE rule(0,11,0)=OUTSIDE rule(0,12,0)=OUTSIDE"
                        + " rule(0,MIN,0)=OUTSIDE rule(0,MAX,0)=OUTSIDE count(3)=0");
        bound("a number a, any", "rule(0,2,MIN)=0 rule(0,2,MAX)=1 rule(0,3,MIN)=2 rule(0,5,-1)=3");
        bound("FULL: RULES (24 at most, numbered)",
                "23*rule(0,10,MAX) rule(0,10,MAX)=23 rule(0,10,MAX)=FULL rule(3,2,0)=FULL count(3)=24");
        bound("the last of 24 is asked too",
                "23*rule(0,10,MAX) rule(0,2,0) " + IN + "points(1)=DROPPED failure(0,1)=23");
        bound("OUTSIDE ahead of FULL", "24*rule(0,2,0) rule(4,2,0)=OUTSIDE rule(0,4,0)=OUTSIDE rule(0,2,0)=FULL");
    }

    private static void rulesHold() {
        promise(5);
        bound("RANGE: the latest EVENT is POINTS, above a",
                IN + "rule(0,2,5) points(5)=WELL points(6)=DROPPED",
                IN + "rule(0,2,6000) points(6000)=WELL",
                IN + "rule(0,2,5999) points(6000)=DROPPED");
        bound("RANGE: or below -a",
                IN + "rule(0,2,5) points(-5)=WELL points(-6)=DROPPED",
                IN + "rule(0,2,6000) points(-6000)=WELL",
                IN + "rule(0,2,5999) points(-6000)=DROPPED");
        bound("RANGE by 0 and less",
                IN + "rule(0,2,0) points(0)=WELL points(1)=DROPPED",
                IN + "rule(0,2,0) points(-1)=DROPPED",
                IN + "rule(0,2,-1) points(0)=DROPPED",
                IN + "rule(0,2,MIN) points(-6000)=DROPPED",
                IN + "rule(0,2,MAX) points(-6000)=WELL points(6000)=WELL");
        bound("RANGE: no EVENT, or one that is no POINTS",
                IN + "rule(1,2,0) save(0)=WELL deduct(9) save(0)=WELL remark(7) save(0)=WELL points(0) save(0)=WELL"
                        + " points(1) save(0)=DROPPED");
        bound("TWICE: at least two",
                IN + "rule(0,3,-5) points(1)=WELL points(1)=DROPPED",
                IN + "rule(0,3,1) points(1)=WELL points(1)=DROPPED",
                IN + "rule(0,3,MIN) points(1)=WELL points(1)=DROPPED");
        bound("TWICE: and more than a",
                IN + "rule(0,3,2) points(1)=WELL points(1)=WELL points(1)=DROPPED",
                IN + "rule(0,3,399) 399*points(1) points(1)=DROPPED");
        bound("TWICE: of this JUDGE to this ENTRY, POINTS alone",
                "show(0,2) 2*entry(0) rule(0,3,1) begin(0,0) points(1)=WELL deduct(1) remark(1) begin(1,0)"
                        + " points(1)=WELL begin(0,1) points(1)=WELL begin(0,0) points(1)=DROPPED");
        bound("OVER: the MARK is above a",
                IN + "rule(0,5,7) points(4)=WELL points(3)=WELL points(1)=DROPPED",
                IN + "rule(0,5,MAX) points(6000)=WELL",
                IN + "rule(0,5,MIN) points(-6000)=DROPPED",
                IN + "rule(0,5,-1) points(-1)=WELL points(1)=DROPPED");
        bound("UNDER: it is below a",
                IN + "rule(0,6,7) points(7)=WELL points(-1)=DROPPED",
                IN + "rule(0,6,MIN) points(-6000)=WELL",
                IN + "rule(0,6,MAX) points(6000)=DROPPED");
        bound("SPREAD: the greatest is more than a above the least",
                "show(0,2) entry(0) rule(0,8,9) begin(0,0) points(5)=WELL begin(1,0) points(-4)=WELL"
                        + " points(-1)=DROPPED",
                "show(0,5) entry(0) rule(0,8,9) begin(4,0) points(-9)=WELL points(-1)=DROPPED",
                IN + "rule(0,8,0) points(6000)=WELL",
                IN + "rule(0,8,-1) points(1)=DROPPED");
        bound("BUDGET: there are more than a EVENTS",
                IN + "rule(0,10,3) remark(1) deduct(1) points(1)=WELL points(1)=DROPPED",
                IN + "rule(0,10,399) 399*points(0) points(0)=DROPPED",
                IN + "rule(0,10,400) 399*points(0) points(0)=WELL",
                IN + "rule(1,10,0) save(0)=WELL",
                IN + "rule(1,10,-1) save(0)=DROPPED");
    }

    private static void moments() {
        promise(5);
        bound("MOMENT 0 behind points() alone",
                IN + "rule(0,10,-1) deduct(1)=1 remark(1)=1 save(0)=WELL end()=WELL",
                IN + "rule(0,10,-1) points(0)=DROPPED");
        bound("MOMENT 1 behind save() alone",
                IN + "rule(1,10,-1) points(1)=WELL deduct(1)=1 remark(1)=1 end()=WELL",
                IN + "rule(1,10,-1) save(0)=DROPPED");
        bound("MOMENT 2 at end() alone",
                IN + "rule(2,10,-1) points(1)=WELL deduct(1)=1 save(0)=WELL drop()=0",
                IN + "rule(2,10,-1) end()=DROPPED depth()=0 count(6)=0");
        bound("MOMENT 3 throws nothing of itself",
                IN + "rule(3,10,-1) points(1)=WELL save(0)=WELL drop()=0 count(7)=0",
                IN + "rule(3,10,-1) end()=WELL count(7)=0");
        bound("the first RULE of the MOMENT, by numbers, that HOLDS",
                IN + "rule(1,2,0) rule(0,5,9) rule(0,10,0) rule(0,2,0) points(1)=DROPPED failure(0,0)=10"
                        + " failure(0,1)=2 failure(1,0)=UNKNOWN count(7)=1");
        bound("of the innermost SCORING",
                "show(0,2) entry(0) begin(0,0) points(9) rule(1,5,8) begin(1,0) save(0)=WELL end()=WELL"
                        + " save(0)=DROPPED");
    }

    private static void clearRules() {
        promise(6);
        bound("how many there were",
                "clearRules()=0 rule(0,2,0) clearRules()=1 clearRules()=0 24*rule(0,2,0) clearRules()=24 count(3)=0");
        bound("all RULES go", IN + "rule(0,2,0) rule(0,10,-1) clearRules()=2 points(5)=WELL count(7)=0");
        bound("numbers begin anew",
                "24*rule(0,10,MAX) clearRules()=24 rule(0,2,0)=0 rule(0,2,0)=1 " + IN + "points(1)=DROPPED"
                        + " failure(0,1)=0");
        bound("there is room again",
                "24*rule(0,2,0) rule(0,2,0)=FULL clearRules()=24 23*rule(0,2,0) rule(0,2,0)=23 rule(0,2,0)=FULL");
    }

    private static void observers() {
        promise(7);
        bound("OUTSIDE: n below 0",
                "observe(0)=0 observe(1)=1 observe(MAX)=2 observe(-1)=OUTSIDE observe(MIN)=OUTSIDE count(4)=3");
        bound("FULL: OBSERVERS (6 at most, numbered)",
                "5*observe(0) observe(1)=5 observe(0)=FULL observe(1)=FULL count(4)=6");
        bound("OUTSIDE ahead of FULL", "6*observe(0) observe(-1)=OUTSIDE observe(0)=FULL");
        bound("throws at its n-th telling (n from 1 on)",
                ONE + "observe(1) begin(0,0) end()=THREW begin(0,0) end()=WELL",
                ONE + "observe(3) begin(0,0) end()=WELL begin(0,0) end()=WELL begin(0,0) end()=THREW begin(0,0)"
                        + " end()=WELL count(7)=1 count(9)=4");
        bound("or never (0)", ONE + "observe(0) begin(0,0) end()=WELL begin(0,0) end()=WELL count(9)=2");
        bound("its own tellings",
                ONE + "observe(0) begin(0,0) end()=WELL observe(1) begin(0,0) end()=THREW failure(0,1)=-3");
        bound("its RULE is -2 less its number",
                ONE + "6*observe(1) begin(0,0) end()=THREW count(7)=6 failure(0,0)=11 failure(0,1)=-2"
                        + " failure(5,0)=11 failure(5,1)=-7 failure(5,2)=NONE failure(5,3)=NONE failure(5,4)=0");
        bound("the others are told, THE LEDGER stays",
                ONE + "3*observe(1) begin(0,0) points(5) end()=THREW count(9)=3 mark(0,0)=5 count(5)=1 count(6)=1"
                        + " count(8)=0 depth()=0");
        bound("told of each ACT alone",
                ONE + "observe(1) begin(0,0) drop() rule(0,2,0) begin(0,0) points(1)=DROPPED rule(2,10,-1)"
                        + " begin(0,0) guard(0,0) end()=CAUGHT clearRules() begin(0,0) end()=WELL count(9)=0"
                        + " close(0)=STATE end()=THREW close(0)=1 undo()=1 count(9)=1");
    }

    private static void begin() {
        promise(8);
        String two = "show(0,2) show(0,1) 2*entry(0) entry(1) ";
        bound("UNKNOWN: j",
                two + "begin(-1,0)=UNKNOWN begin(3,0)=UNKNOWN begin(MIN,0)=UNKNOWN begin(MAX,0)=UNKNOWN"
                        + " begin(0,0)=1 drop() begin(2,2)=1");
        bound("UNKNOWN: e",
                two + "begin(0,-1)=UNKNOWN begin(0,3)=UNKNOWN begin(0,MIN)=UNKNOWN begin(0,MAX)=UNKNOWN"
                        + " begin(0,1)=1 drop() begin(2,2)=1");
        bound("OUTSIDE: the JUDGE is of another CLASS",
                two + "begin(1,1)=1 begin(2,1)=OUTSIDE begin(1,2)=OUTSIDE begin(2,2)=2");
        bound("STATE: the CLASS is CLOSED",
                two + "close(1) begin(2,2)=STATE begin(0,0)=1 drop() undo()=1 begin(2,2)=1");
        bound("FULL: 8 stand",
                two + "7*begin(0,0) begin(2,2)=8 begin(0,0)=FULL depth()=8 drop()=7 begin(0,0)=8 begin(0,0)=FULL"
                        + " end()=WELL begin(1,1)=8");
        bound("UNKNOWN ahead of OUTSIDE ahead of STATE ahead of FULL",
                two + "close(1) 8*begin(0,0) begin(3,2)=UNKNOWN begin(2,3)=UNKNOWN begin(0,2)=OUTSIDE"
                        + " begin(2,2)=STATE begin(0,0)=FULL");
        bound("it has no SAVEPOINTS and no GUARDS",
                IN + "save(1) guard(0,1) begin(0,0)=2 scoring(0,2)=0 scoring(0,3)=0 save(2) guard(0,2) drop()=1"
                        + " begin(0,0)=2 scoring(0,2)=0 scoring(0,3)=0 scoring(0,4)=NONE back(1)=STATE");
    }

    private static void points() {
        promise(9);
        bound("OUTSIDE: n (-6000 to 6000)",
                IN + "points(6000)=WELL points(-6000)=WELL points(6001)=OUTSIDE points(-6001)=OUTSIDE"
                        + " points(MAX)=OUTSIDE points(MIN)=OUTSIDE mark(0,0)=0 count(5)=2");
        bound("STATE: no SCORING", ONE + "points(1)=STATE begin(0,0) points(1)=WELL end() points(1)=STATE");
        bound("FULL: 400 EVENTS", IN + "399*points(1) points(1)=WELL points(1)=FULL count(5)=400 mark(0,0)=400");
        bound("FULL in the next SCORING too, until there is room",
                IN + "390*points(0) begin(0,0) 10*remark(1) points(1)=FULL end()=WELL points(1)=FULL end()=WELL"
                        + " begin(0,0) points(1)=FULL drop() undo()=1 begin(0,0) points(1)=WELL count(5)=1");
        bound("OUTSIDE ahead of STATE", ONE + "points(6001)=OUTSIDE points(-6001)=OUTSIDE points(6000)=STATE");
        bound("OUTSIDE ahead of FULL", IN + "400*deduct(0) points(6001)=OUTSIDE points(1)=FULL");
        bound("STATE ahead of FULL", IN + "400*deduct(0) end() points(1)=STATE deduct(1)=STATE remark(1)=STATE");
        bound("ints that wrap nowhere",
                IN + "400*points(6000) mark(0,0)=2400000 told(0,1)=2400000",
                IN + "400*points(-6000) mark(0,0)=-2400000 told(0,1)=0");
        bound("the last of 400 goes back too",
                IN + "399*points(1) save(1) points(7)=WELL points(1)=FULL back(1)=1 mark(0,0)=399 count(5)=399"
                        + " points(1)=WELL points(1)=FULL");
    }

    private static void pointsThrow() {
        promise(9);
        bound("the latest of its GUARDS of whose KIND it is",
                IN + "rule(0,2,0) points(0) save(1) points(0) save(2) guard(1,1) guard(2,2) guard(3,3) guard(4,1)"
                        + " points(9)=CAUGHT count(5)=2 scoring(0,2)=2 scoring(0,3)=4 failure(0,5)=3",
                IN + "rule(0,2,0) points(0) save(1) points(0) save(2) guard(2,2) guard(0,1) points(9)=CAUGHT"
                        + " count(5)=1");
        bound("the last of 8 GUARDS", IN + "rule(0,2,0) 7*guard(7,0) guard(2,0) points(1)=CAUGHT depth()=1");
        bound("the first of 8 GUARDS", IN + "rule(0,2,0) guard(2,0) 7*guard(7,0) points(1)=CAUGHT depth()=1");
        bound("SAVEPOINTS behind that go",
                IN + "rule(0,2,0) save(1) save(2) save(3) guard(0,2) points(1)=CAUGHT scoring(0,2)=2 scoring(0,5)=2"
                        + " scoring(0,6)=NONE back(3)=STATE");
        bound("if there is no such SAVEPOINT: as at the begin, all go",
                IN + "points(0) begin(0,0) rule(0,2,0) points(0) save(1) save(2) guard(0,3) points(1)=CAUGHT"
                        + " count(5)=1 scoring(0,2)=0 scoring(0,3)=1 depth()=2",
                IN + "save(3) begin(0,0) rule(0,2,0) guard(0,3) points(0) points(1)=CAUGHT scoring(0,2)=0"
                        + " scoring(1,2)=1 count(5)=0");
        bound("GUARDS stay, and catch again",
                IN + "rule(0,2,0) guard(0,0) points(1)=CAUGHT points(1)=CAUGHT count(8)=2");
        bound("a GUARD of another KIND does not",
                IN + "rule(0,2,0) guard(3,0) guard(4,0) guard(7,0) guard(9,0) guard(11,0) points(1)=DROPPED"
                        + " depth()=0");
        bound("if there is none that CATCHES, of the outermost one: DROPPED",
                IN + "rule(0,2,0) points(1)=DROPPED depth()=0 count(5)=0 count(6)=0 count(7)=1 count(8)=0"
                        + " failure(0,4)=1 failure(0,5)=1 end()=STATE");
        bound("none of MOMENT 3 that HOLDS", IN + "rule(0,2,0) rule(3,5,1) points(1)=DROPPED count(7)=1");
        bound("each of MOMENT 3 that HOLDS, by numbers",
                IN + "rule(3,10,0) rule(0,2,0) rule(3,5,1) 21*rule(3,5,0) points(1)=DROPPED count(7)=23"
                        + " failure(0,0)=2 failure(1,0)=10 failure(1,1)=0 failure(1,2)=NONE failure(1,3)=0"
                        + " failure(1,4)=1 failure(1,5)=1 failure(2,1)=3 failure(22,1)=23 failure(22,3)=0");
        bound("SUPPRESSED only if none CATCHES",
                IN + "rule(3,10,0) rule(0,2,0) guard(0,0) points(1)=CAUGHT count(7)=1");
    }

    private static void failuresGoUp() {
        promise(9);
        String deep = ONE + "8*begin(0,0) ";
        bound("of POINT: ENTRY, CLASS, SHOW, SHOW, out of all 8",
                deep + "rule(0,2,0) points(1)=DROPPED count(7)=8 failure(0,0)=2 failure(0,1)=0 failure(0,2)=NONE"
                        + " failure(0,4)=8 failure(0,5)=1 failure(1,0)=4 failure(1,1)=NONE failure(1,2)=0"
                        + " failure(1,3)=NONE failure(1,4)=7 failure(1,5)=0 failure(2,0)=7 failure(3,0)=9"
                        + " failure(4,0)=9 failure(7,0)=9 failure(7,2)=6 failure(7,4)=1 depth()=0",
                deep + "rule(0,3,0) points(0) points(0)=DROPPED failure(0,0)=3 failure(1,0)=4 failure(2,0)=7");
        bound("of ENTRY: CLASS",
                deep + "rule(0,5,0) points(1)=DROPPED failure(0,0)=5 failure(1,0)=7 failure(2,0)=9",
                deep + "rule(0,6,0) points(-1)=DROPPED failure(0,0)=6 failure(1,0)=7 failure(2,0)=9");
        bound("of CLASS or SHOW: SHOW",
                deep + "rule(0,8,-1) points(1)=DROPPED failure(0,0)=8 failure(1,0)=9 failure(2,0)=9",
                deep + "rule(0,10,0) points(1)=DROPPED failure(0,0)=10 failure(1,0)=9 failure(2,0)=9");
        bound("caught in the outermost one",
                ONE + "begin(0,0) guard(9,0) points(0) 7*begin(0,0) rule(0,2,0) points(1)=CAUGHT depth()=1"
                        + " count(5)=0 count(7)=8 count(8)=1 failure(7,0)=9 failure(8,0)=UNKNOWN");
        bound("caught one step out, as the other KIND",
                ONE + "begin(0,0) guard(4,0) begin(0,0) rule(0,2,0) points(1)=CAUGHT depth()=1",
                ONE + "begin(0,0) guard(2,0) guard(1,0) begin(0,0) rule(0,2,0) points(1)=DROPPED depth()=0");
        bound("MOMENT 3 is asked of each that goes, in its STATE",
                "show(0,2) entry(0) begin(0,0) points(1) begin(1,0) rule(3,5,0) rule(0,2,4) points(5)=DROPPED"
                        + " count(7)=4 failure(1,0)=5 failure(1,3)=0 failure(1,4)=2 failure(1,5)=2 failure(2,0)=4"
                        + " failure(2,2)=0 failure(2,5)=1 failure(3,0)=5 failure(3,3)=2 failure(3,4)=1"
                        + " failure(3,5)=1");
    }

    private static void deduct() {
        promise(10);
        bound("OUTSIDE: n is not 0 to 6000",
                IN + "deduct(0)=0 deduct(6000)=6000 deduct(-1)=OUTSIDE deduct(6001)=OUTSIDE deduct(MIN)=OUTSIDE"
                        + " deduct(MAX)=OUTSIDE told(0,2)=6000 count(5)=2");
        bound("STATE: no SCORING", ONE + "deduct(1)=STATE begin(0,0) deduct(1)=1 end() deduct(1)=STATE told(0,2)=1");
        bound("FULL", IN + "399*points(0) deduct(3)=3 deduct(3)=FULL told(0,2)=3 count(5)=400");
        bound("OUTSIDE ahead of STATE", ONE + "deduct(-1)=OUTSIDE deduct(6001)=OUTSIDE deduct(0)=STATE");
        bound("OUTSIDE ahead of FULL", IN + "400*points(0) deduct(-1)=OUTSIDE deduct(0)=FULL");
        bound("its OFF, the sum", IN + "399*deduct(6000) deduct(6000)=2400000 told(0,2)=2400000 told(0,1)=0");
    }

    private static void remark() {
        promise(11);
        bound("OUTSIDE: REMARKS 0 to 7",
                IN + "remark(0)=1 remark(7)=2 remark(-1)=OUTSIDE remark(8)=OUTSIDE remark(MIN)=OUTSIDE"
                        + " remark(MAX)=OUTSIDE told(0,3)=129 count(5)=2");
        bound("STATE: no SCORING", ONE + "remark(1)=STATE begin(0,0) remark(1)=1 end() remark(1)=STATE told(0,3)=2");
        bound("FULL", IN + "399*points(0) remark(3)=1 remark(4)=FULL remark(3)=FULL told(0,3)=8 count(5)=400");
        bound("OUTSIDE ahead of STATE", ONE + "remark(-1)=OUTSIDE remark(8)=OUTSIDE remark(0)=STATE");
        bound("OUTSIDE ahead of FULL", IN + "400*points(0) remark(8)=OUTSIDE remark(7)=FULL");
        bound("it may already", IN + "remark(5)=1 remark(5)=1 count(5)=2 told(0,3)=32");
        bound("all of them",
                IN + "told(0,3)=0 remark(0)=1 remark(1)=2 remark(2)=3 remark(3)=4 remark(4)=5 remark(5)=6"
                        + " remark(6)=7 remark(7)=8 remark(7)=8 told(0,3)=255");
    }

    private static void save() {
        promise(12);
        bound("OUTSIDE: a NAME 0 to 15",
                IN + "save(0)=WELL save(15)=WELL save(-1)=OUTSIDE save(16)=OUTSIDE save(MIN)=OUTSIDE"
                        + " save(MAX)=OUTSIDE scoring(0,2)=2");
        bound("STATE: no SCORING", ONE + "save(1)=STATE begin(0,0) save(1)=WELL end() save(1)=STATE");
        bound("OUTSIDE ahead of STATE", ONE + "save(16)=OUTSIDE save(-1)=OUTSIDE save(15)=STATE");
        bound("one that has this NAME goes",
                IN + "save(1) points(1) save(2) points(1) save(1)=WELL scoring(0,2)=2 scoring(0,4)=2 scoring(0,5)=1"
                        + " points(1) back(1)=2 mark(0,0)=2 back(2)=1 mark(0,0)=1",
                IN + "save(1) save(1)=WELL scoring(0,2)=1 scoring(0,5)=NONE");
        bound("all 16 NAMES, and each again",
                IN + sixteenSaved() + "scoring(0,2)=16 scoring(0,4)=0 scoring(0,19)=15 scoring(0,20)=NONE"
                        + " save(0)=WELL scoring(0,2)=16 scoring(0,4)=1 scoring(0,19)=0 save(15)=WELL"
                        + " scoring(0,18)=0 scoring(0,19)=15 back(1)=1");
        bound("there is no most of calls", IN + "100*save(3) scoring(0,2)=1");
        bound("of the innermost SCORING",
                IN + "save(1) begin(0,0) save(1)=WELL scoring(0,2)=1 scoring(1,2)=1 drop() back(1)=1");
        bound("MOMENT 1, behind it: it is there",
                IN + "rule(1,10,0) points(4) guard(0,7) save(7)=CAUGHT scoring(0,2)=1 mark(0,0)=4 failure(0,5)=1",
                IN + "rule(1,10,0) points(4) guard(0,7) save(6)=CAUGHT scoring(0,2)=0 mark(0,0)=0");
    }

    private static String sixteenSaved() {
        StringBuilder text = new StringBuilder();
        for (int name = 0; name < 16; name++) {
            text.append("save(").append(name).append(")=WELL ");
        }
        return text.toString();
    }

    private static void back() {
        promise(13);
        bound("OUTSIDE",
                IN + "save(0) save(15) back(15)=2 back(16)=OUTSIDE back(-1)=OUTSIDE back(MIN)=OUTSIDE"
                        + " back(MAX)=OUTSIDE back(0)=1 back(15)=STATE");
        bound("STATE: no SCORING", ONE + "back(0)=STATE begin(0,0) save(0) back(0)=1 end() back(0)=STATE");
        bound("STATE: no such SAVEPOINT",
                IN + "back(0)=STATE save(1) back(0)=STATE back(2)=STATE back(1)=1 begin(0,0) back(1)=STATE");
        bound("OUTSIDE ahead of STATE", ONE + "back(16)=OUTSIDE back(-1)=OUTSIDE back(15)=STATE");
        bound("those behind it go, it stays",
                IN + sixteenSaved() + "back(15)=16 back(7)=8 back(8)=STATE back(7)=8 back(0)=1 back(0)=1");
        bound("THE STATE: MARKS, OFFS, REMARKS, EVENTS",
                IN + "points(1) remark(1) save(3) points(2) deduct(3) remark(1) remark(4) back(3)=1 mark(0,0)=1"
                        + " told(0,2)=0 told(0,3)=2 count(5)=2 event(2,0)=UNKNOWN event(1,0)=2");
        bound("saved with no EVENT", IN + "save(3) points(2) back(3)=1 count(5)=0 back(3)=1");
    }

    private static void release() {
        promise(14);
        bound("OUTSIDE",
                IN + "save(0) save(15) release(16)=OUTSIDE release(-1)=OUTSIDE release(MIN)=OUTSIDE"
                        + " release(MAX)=OUTSIDE release(15)=1 release(0)=0");
        bound("STATE: no SCORING", ONE + "release(0)=STATE begin(0,0) save(0) end() release(0)=STATE");
        bound("STATE: no such SAVEPOINT",
                IN + "release(0)=STATE save(1) release(0)=STATE release(2)=STATE begin(0,0) release(1)=STATE drop()"
                        + " release(1)=0 release(1)=STATE");
        bound("OUTSIDE ahead of STATE", ONE + "release(16)=OUTSIDE release(-1)=OUTSIDE release(15)=STATE");
        bound("it goes, and those behind it; THE STATE stays",
                IN + sixteenSaved() + "points(5) release(15)=15 release(7)=7 release(8)=STATE release(6)=6"
                        + " release(0)=0 mark(0,0)=5 scoring(0,4)=NONE");
    }

    private static void guard() {
        promise(15);
        bound("OUTSIDE: KIND (0 to 11)",
                IN + "guard(0,0)=1 guard(11,0)=2 guard(-1,0)=OUTSIDE guard(12,0)=OUTSIDE guard(MIN,0)=OUTSIDE"
                        + " guard(MAX,0)=OUTSIDE scoring(0,3)=2");
        bound("OUTSIDE: NAME",
                IN + "guard(0,0)=1 guard(0,15)=2 guard(0,-1)=OUTSIDE guard(0,16)=OUTSIDE guard(0,MIN)=OUTSIDE"
                        + " guard(0,MAX)=OUTSIDE scoring(0,3)=2");
        bound("STATE: no SCORING", ONE + "guard(0,0)=STATE begin(0,0) guard(0,0)=1 end() guard(0,0)=STATE");
        bound("FULL: 8 at most",
                IN + "7*guard(0,0) guard(1,1)=8 guard(0,0)=FULL scoring(0,3)=8 begin(0,0) guard(0,0)=1 drop()"
                        + " guard(0,0)=FULL");
        bound("OUTSIDE ahead of STATE", ONE + "guard(12,0)=OUTSIDE guard(0,16)=OUTSIDE guard(11,15)=STATE");
        bound("OUTSIDE ahead of FULL", IN + "8*guard(0,0) guard(-1,0)=OUTSIDE guard(0,16)=OUTSIDE guard(0,0)=FULL");
        bound("its NAME need not be saved",
                IN + "guard(0,9)=1 points(4) save(9) points(1) rule(0,2,0) points(1)=CAUGHT mark(0,0)=4");
    }

    private static void end() {
        promise(16);
        bound("STATE: no SCORING", "end()=STATE " + ONE + "end()=STATE begin(0,0) end()=WELL end()=STATE");
        bound("the innermost one, out of 8",
                ONE + "8*begin(0,0) points(1) 7*end()=WELL depth()=1 count(6)=0 end()=WELL depth()=0 count(6)=1"
                        + " mark(0,0)=1 end()=STATE");
        bound("what it did stays, as far as the outer one does",
                ONE + "begin(0,0) begin(0,0) points(1) end()=WELL drop()=0 count(5)=0");
        bound("3 only of the outermost one",
                ONE + "observe(1) begin(0,0) begin(0,0) end()=WELL count(9)=0 end()=THREW");
        bound("MOMENT 2, ahead of all: 1",
                IN + "observe(1) rule(2,6,3) points(2) end()=DROPPED depth()=0 count(9)=0 count(6)=0 mark(0,0)=0"
                        + " undo()=STATE",
                IN + "rule(2,6,3) points(3) end()=WELL");
        bound("MOMENT 2: 2, and it stands",
                IN + "rule(2,6,3) guard(6,4) points(2) save(4) points(-1) end()=CAUGHT depth()=1 count(6)=0"
                        + " mark(0,0)=2 failure(0,4)=1 points(1) end()=WELL depth()=0");
        bound("one that did nothing is an ACT", IN + "end()=WELL count(6)=1 undo()=1");
    }

    private static void drop() {
        promise(17);
        bound("STATE: no SCORING", "drop()=STATE " + ONE + "drop()=STATE begin(0,0) drop()=0 drop()=STATE");
        bound("out of 8", ONE + "8*begin(0,0) drop()=7 6*drop() depth()=1 drop()=0 depth()=0");
        bound("THE STATE is as it was at its begin",
                IN + "points(1) remark(2) begin(0,0) points(2) deduct(3) remark(2) remark(4) drop()=1 mark(0,0)=1"
                        + " told(0,2)=0 told(0,3)=4 count(5)=2 drop()=0 mark(0,0)=0 told(0,3)=0 count(5)=0");
        bound("it is no FAILURE and no ACT",
                IN + "guard(0,0) rule(2,10,-1) rule(3,10,-1) observe(1) drop()=0 count(6)=0 count(7)=0 count(9)=0"
                        + " undo()=STATE");
    }

    private static void depth() {
        promise(18);
        bound("none to 8",
                "depth()=0 " + ONE + "begin(0,0) depth()=1 7*begin(0,0) depth()=8 begin(0,0)=FULL depth()=8 8*end()"
                        + " depth()=0");
    }

    private static void scoring() {
        promise(19);
        String two = "show(0,2) 2*entry(0) begin(0,1) begin(1,0) ";
        bound("UNKNOWN",
                "scoring(0,0)=UNKNOWN " + two + "scoring(0,0)=1 scoring(0,1)=0 scoring(1,0)=0 scoring(1,1)=1"
                        + " scoring(2,0)=UNKNOWN scoring(-1,0)=UNKNOWN scoring(MIN,0)=UNKNOWN"
                        + " scoring(MAX,0)=UNKNOWN");
        bound("the 7th step out of 8", ONE + "8*begin(0,0) scoring(7,0)=0 scoring(8,0)=UNKNOWN");
        bound("OUTSIDE: what is below 0", two + "scoring(0,-1)=OUTSIDE scoring(1,MIN)=OUTSIDE scoring(0,0)=1");
        bound("UNKNOWN ahead of OUTSIDE", "scoring(0,-1)=UNKNOWN " + two + "scoring(2,-1)=UNKNOWN");
        bound("its k-th SAVEPOINT (NONE)",
                IN + "scoring(0,4)=NONE save(9) scoring(0,4)=9 scoring(0,5)=NONE save(8) scoring(0,4)=9"
                        + " scoring(0,5)=8 scoring(0,6)=NONE scoring(0,MAX)=NONE");
        bound("how many SAVEPOINTS, how many GUARDS",
                IN + "scoring(0,2)=0 scoring(0,3)=0 " + sixteenSaved() + "8*guard(0,0) scoring(0,2)=16"
                        + " scoring(0,3)=8");
    }

    private static void told() {
        promise(20);
        bound("UNKNOWN",
                "told(0,0)=UNKNOWN " + ONE + "told(0,0)=0 told(1,0)=UNKNOWN told(-1,0)=UNKNOWN told(MIN,0)=UNKNOWN"
                        + " told(MAX,0)=UNKNOWN");
        bound("OUTSIDE",
                ONE + "told(0,0)=0 told(0,6)=0 told(0,-1)=OUTSIDE told(0,7)=OUTSIDE told(0,MIN)=OUTSIDE"
                        + " told(0,MAX)=OUTSIDE");
        bound("UNKNOWN ahead of OUTSIDE", ONE + "told(1,7)=UNKNOWN told(-1,-1)=UNKNOWN");
        bound("of an ENTRY with nothing",
                ONE + "told(0,1)=0 told(0,2)=0 told(0,3)=0 told(0,4)=1 told(0,5)=1 told(0,6)=0");
    }

    /** One ENTRY that gets these MARKS. */
    private static String marked(int schedule, int... marks) {
        StringBuilder text = new StringBuilder("show(" + schedule + "," + marks.length + ") entry(0) ");
        for (int j = 0; j < marks.length; j++) {
            text.append("begin(").append(j).append(",0) points(").append(marks[j]).append(") ");
        }
        return text.toString();
    }

    private static void totals() {
        promise(20);
        bound("TOTAL by 0: the sum",
                marked(0, 7) + "told(0,1)=7",
                marked(0, 1, 2, 3, 4, 5) + "told(0,1)=15",
                marked(0, 5, -4) + "told(0,1)=1",
                marked(0, 5, -5) + "told(0,1)=0",
                marked(0, 5, -6) + "told(0,1)=0");
        bound("by 1, two JUDGES: of two the even one",
                marked(1, 1, 0) + "told(0,1)=0",
                marked(1, 1, 1) + "told(0,1)=1",
                marked(1, 1, 2) + "told(0,1)=2",
                marked(1, 2, 3) + "told(0,1)=2",
                marked(1, 3, 4) + "told(0,1)=4",
                marked(1, 6, -5) + "told(0,1)=0",
                marked(1, -5, 8) + "told(0,1)=2");
        bound("by 1, four JUDGES: a quarter, a half, three quarters",
                marked(1, 1, 0, 0, 0) + "told(0,1)=0",
                marked(1, 1, 0, 1, 0) + "told(0,1)=0",
                marked(1, 1, 1, 1, 0) + "told(0,1)=1",
                marked(1, 2, 1, 1, 1) + "told(0,1)=1",
                marked(1, 2, 1, 1, 2) + "told(0,1)=2",
                marked(1, 2, 1, 2, 2) + "told(0,1)=2",
                marked(1, 2, 3, 2, 3) + "told(0,1)=2");
        bound("by 1, one JUDGE, three and five: the nearest",
                marked(1, 7) + "told(0,1)=7",
                marked(1, 1, 0, 0) + "told(0,1)=0",
                marked(1, 1, 1, 0) + "told(0,1)=1",
                marked(1, 2, 1, 1) + "told(0,1)=1",
                marked(1, 2, 2, 1) + "told(0,1)=2",
                marked(1, 1, 1, 0, 0, 0) + "told(0,1)=0",
                marked(1, 1, 1, 1, 0, 0) + "told(0,1)=1",
                marked(1, 7, 0, 0, 0, 0) + "told(0,1)=1",
                marked(1, 8, 0, 0, 0, 0) + "told(0,1)=2");
        bound("by 2: the middle MARK",
                marked(2, 7) + "told(0,1)=7",
                marked(2, 9, 1, 4) + "told(0,1)=4",
                marked(2, 4, 4, 9) + "told(0,1)=4",
                marked(2, 5, 1, 4, 2, 3) + "told(0,1)=3",
                marked(2, -1, 9, -1) + "told(0,1)=0");
        bound("by 2: half of the two middle ones together, rounded so",
                marked(2, 1, 0) + "told(0,1)=0",
                marked(2, 1, 2) + "told(0,1)=2",
                marked(2, 3, 2) + "told(0,1)=2",
                marked(2, 9, 3, 4, 0) + "told(0,1)=4",
                marked(2, 0, 2, 9, 3) + "told(0,1)=2",
                marked(2, 6, 2, 9, 0) + "told(0,1)=4",
                marked(2, -3, 6) + "told(0,1)=2");
        bound("by 3: if there are 3 JUDGES or more",
                marked(3, 7) + "told(0,1)=7",
                marked(3, 7, 2) + "told(0,1)=9",
                marked(3, 7, 2, 4) + "told(0,1)=4",
                marked(3, 2, 7, 4) + "told(0,1)=4",
                marked(3, 4, 2, 7) + "told(0,1)=4",
                marked(3, 5, 5, 1) + "told(0,1)=5",
                marked(3, 5, 5, 5) + "told(0,1)=5",
                marked(3, 1, 2, 3, 4) + "told(0,1)=5",
                marked(3, 1, 2, 3, 4, 100) + "told(0,1)=9",
                marked(3, -9, -1, 9) + "told(0,1)=0");
        bound("OFF is taken away; it is 0 at least",
                marked(0, 5) + "deduct(4) told(0,1)=1 deduct(1) told(0,1)=0 deduct(1) told(0,1)=0 told(0,2)=6",
                marked(0, -1) + "told(0,1)=0 deduct(1) told(0,1)=0");
        bound("OFF, behind the rounding",
                marked(1, 3, 2) + "deduct(1) told(0,1)=1",
                marked(2, 3, 4) + "deduct(1) told(0,1)=3",
                marked(3, 7, 2, 4) + "deduct(3) told(0,1)=1");
    }

    private static void ranks() {
        promise(20);
        String two = "show(0,3) 2*entry(0) ";
        bound("RANK: a greater TOTAL",
                two + "begin(0,0) points(5) begin(0,1) points(5) told(0,4)=1 told(1,4)=1 told(0,5)=2 points(1)"
                        + " told(0,4)=2 told(1,4)=1 told(0,5)=1 told(1,5)=1");
        bound("with the same one, a lesser OFF",
                two + "begin(0,0) points(5) begin(0,1) points(6) deduct(1) told(0,1)=5 told(1,1)=5 told(0,4)=1"
                        + " told(1,4)=2",
                two + "begin(0,1) deduct(1) told(0,4)=1 told(1,4)=2 end() begin(0,0) deduct(1) told(0,4)=1"
                        + " told(1,4)=1");
        bound("with the same, more JUDGES by whom its MARK is above 0",
                two + "begin(0,0) points(2) begin(0,1) points(1) begin(1,1) points(1) told(0,4)=2 told(1,4)=1",
                two + "begin(1,0) points(2) begin(0,1) points(1) begin(1,1) points(1) told(0,4)=2 told(1,4)=1",
                two + "begin(0,0) points(2) begin(1,0) points(0) begin(0,1) points(2) told(0,4)=1 told(1,4)=1",
                two + "begin(0,0) points(2) begin(1,0) points(-1) begin(2,0) points(1) begin(0,1) points(2)"
                        + " told(0,1)=2 told(1,1)=2 told(0,4)=1 told(1,4)=2");
        bound("the OFF ahead of the JUDGES",
                two + "begin(0,0) points(2) begin(0,1) points(2) deduct(1) begin(1,1) points(1) told(0,4)=1"
                        + " told(1,4)=2");
        bound("1, and one for each that is BETTER",
                "show(0,1) 4*entry(0) begin(0,0) points(1) begin(0,2) points(1) begin(0,3) points(2) told(3,4)=1"
                        + " told(0,4)=2 told(2,4)=2 told(1,4)=4 told(0,5)=2 told(1,5)=1");
        bound("of its CLASS",
                "show(0,1) show(0,1) entry(0) entry(1) begin(1,1) points(9) told(0,4)=1 told(1,4)=1 told(0,5)=1");
        bound("how many have its RANK, asked first", two + "begin(0,1) points(1) told(1,5)=1", two + "told(1,5)=2");
        bound("60 with one RANK", "show(3,5) 60*entry(0) told(0,4)=1 told(59,4)=1 told(0,5)=60 told(59,5)=60");
        bound("60 RANKS",
                "show(0,1) 60*entry(0) " + risingPoints(60) + "told(0,4)=60 told(0,5)=1 told(1,4)=59 told(59,4)=1"
                        + " place(0,0)=59 place(0,59)=0 place(0,60)=NONE");
    }

    /** ENTRY e gets e POINTS. */
    private static String risingPoints(int entries) {
        StringBuilder text = new StringBuilder();
        for (int e = 1; e < entries; e++) {
            text.append("begin(0,").append(e).append(") points(").append(e).append(") end() ");
        }
        return text.toString();
    }

    private static void prizesAreShared() {
        promise(20);
        bound("its PRIZE (0, if the CLASS is OPEN)",
                ONE + "prizes(0,9,5,2) told(0,6)=0 close(0) told(0,6)=9 undo() told(0,6)=0");
        bound("asked first",
                "show(0,1) 2*entry(0) prizes(0,9,5,2) begin(0,1) points(1) end() close(0) told(1,6)=9",
                "show(0,1) 2*entry(0) prizes(0,9,5,2) begin(0,1) points(1) end() close(0) about(0,5)=2");
        bound("those for 4 and more are 0",
                "show(0,1) 5*entry(0) prizes(0,100,50,20) " + risingPoints(5) + "close(0) told(4,6)=100"
                        + " told(3,6)=50 told(2,6)=20 told(1,6)=0 told(0,6)=0 about(0,5)=0");
        bound("of t ENTRIES with RANK r: the last PRIZE by two, cut",
                "show(0,1) 4*entry(0) prizes(0,100,50,21) begin(0,0) points(3) end() begin(0,1) points(2) end()"
                        + " close(0) told(2,4)=3 told(2,6)=10 told(3,6)=10 about(0,5)=1");
        bound("RANK 2 shared by three",
                "show(0,1) 4*entry(0) prizes(0,100,50,21) begin(0,3) points(3) end() close(0) told(3,6)=100"
                        + " told(0,6)=23 told(1,6)=23 told(2,6)=23 about(0,5)=2");
        bound("RANK 4 shared by two",
                "show(0,1) 5*entry(0) prizes(0,4,2,1) begin(0,0) points(3) end() begin(0,1) points(2) end()"
                        + " begin(0,2) points(1) end() close(0) told(3,4)=4 told(3,6)=0 told(4,6)=0 about(0,5)=0");
        bound("RANK 1 shared by three, and by four",
                "show(0,1) 3*entry(0) prizes(0,4,2,1) close(0) told(0,6)=2 told(2,6)=2 about(0,5)=1",
                "show(0,1) 4*entry(0) prizes(0,4,2,1) close(0) told(0,6)=1 told(3,6)=1 about(0,5)=3");
        bound("shared by 60",
                "show(0,1) 60*entry(0) prizes(0,1000000,1000000,1000000) close(0) told(59,6)=50000 about(0,5)=0",
                "show(0,1) 60*entry(0) prizes(0,20,20,19) close(0) told(0,6)=0 told(59,6)=0 about(0,5)=59",
                "show(0,1) 60*entry(0) prizes(0,20,20,20) close(0) told(0,6)=1 told(59,6)=1 about(0,5)=0");
        bound("cut",
                "show(0,1) 2*entry(0) prizes(0,1,0,9) close(0) told(0,6)=0 told(1,6)=0 about(0,5)=10",
                "show(0,1) 2*entry(0) prizes(0,2,1,0) close(0) told(0,6)=1 told(1,6)=1 about(0,5)=1");
        bound("the greatest",
                ONE + "prizes(0,1000000,0,0) close(0) told(0,6)=1000000 about(0,5)=0",
                "show(0,1) 3*entry(0) prizes(0,1000000,1000000,1000000) close(0) told(0,6)=1000000 about(0,5)=0");
    }

    private static void mark() {
        promise(21);
        String two = "show(0,2) show(0,1) entry(0) entry(1) ";
        bound("UNKNOWN: the ENTRY",
                two + "mark(0,0)=0 mark(1,2)=0 mark(2,0)=UNKNOWN mark(-1,0)=UNKNOWN mark(MIN,0)=UNKNOWN"
                        + " mark(MAX,0)=UNKNOWN");
        bound("UNKNOWN: the JUDGE",
                two + "mark(0,1)=0 mark(0,3)=UNKNOWN mark(0,-1)=UNKNOWN mark(0,MIN)=UNKNOWN mark(0,MAX)=UNKNOWN");
        bound("OUTSIDE: the JUDGE is of another CLASS",
                two + "mark(0,1)=0 mark(0,2)=OUTSIDE mark(1,1)=OUTSIDE mark(1,2)=0");
        bound("UNKNOWN ahead of OUTSIDE", two + "mark(2,2)=UNKNOWN mark(0,3)=UNKNOWN");
        bound("one that looks like a refusal",
                IN + "points(-101) mark(0,0)=-101 points(-1) mark(0,0)=-102 points(-2) mark(0,0)=-104");
        bound("by the last JUDGE to the last ENTRY",
                "11*show(0,5) show(0,5) 59*entry(0) entry(11) begin(59,59) points(8) mark(59,59)=8 mark(59,58)=0"
                        + " mark(58,4)=0");
    }

    private static void place() {
        promise(22);
        bound("UNKNOWN",
                "place(0,0)=UNKNOWN " + ONE + "place(0,0)=0 place(1,0)=UNKNOWN place(-1,0)=UNKNOWN"
                        + " place(MIN,0)=UNKNOWN place(MAX,0)=UNKNOWN");
        bound("NONE",
                "show(0,1) place(0,0)=NONE entry(0) place(0,0)=0 place(0,1)=NONE place(0,-1)=NONE place(0,MIN)=NONE"
                        + " place(0,MAX)=NONE");
        bound("UNKNOWN ahead of NONE", ONE + "place(1,9)=UNKNOWN place(-1,-1)=UNKNOWN");
        bound("by RANK, then by number",
                "show(0,1) 4*entry(0) begin(0,1) points(1) begin(0,3) points(1) place(0,0)=1 place(0,1)=3"
                        + " place(0,2)=0 place(0,3)=2 place(0,4)=NONE");
        bound("the 60th",
                "show(0,1) 60*entry(0) place(0,0)=0 place(0,59)=59 place(0,60)=NONE begin(0,59) points(1)"
                        + " place(0,0)=59 place(0,59)=58");
        bound("of a CLASS",
                "show(0,1) show(0,1) entry(1) entry(0) entry(1) place(0,0)=1 place(0,1)=NONE place(1,1)=2"
                        + " place(1,2)=NONE");
    }

    private static void close() {
        promise(23);
        bound("UNKNOWN",
                "close(0)=UNKNOWN " + ONE + "close(1)=UNKNOWN close(-1)=UNKNOWN close(MIN)=UNKNOWN"
                        + " close(MAX)=UNKNOWN close(0)=1");
        bound("STATE: a SCORING stands",
                IN + "close(0)=STATE about(0,4)=0 end() close(0)=1",
                IN + "show(0,1) close(1)=STATE drop() close(1)=0");
        bound("STATE: it is already",
                ONE + "close(0)=1 close(0)=STATE about(0,4)=1 undo()=1 close(0)=1 close(0)=STATE");
        bound("UNKNOWN ahead of STATE", IN + "close(1)=UNKNOWN close(-1)=UNKNOWN close(0)=STATE");
        bound("how many ENTRIES it has", "show(0,1) show(0,1) 60*entry(1) close(0)=0 close(1)=60");
        bound("all 12",
                "12*show(0,1) entry(11) close(11)=1 close(0)=0 about(0,4)=1 about(1,4)=0 about(11,4)=1"
                        + " close(12)=UNKNOWN");
        bound("CLOSED: what is refused then",
                ONE + "close(0) entry(0)=STATE prizes(0,1,1,1)=STATE begin(0,0)=STATE close(0)=STATE");
    }

    private static void about() {
        promise(24);
        bound("UNKNOWN",
                "about(0,0)=UNKNOWN " + ONE + "about(0,0)=0 about(1,0)=UNKNOWN about(-1,0)=UNKNOWN"
                        + " about(MIN,0)=UNKNOWN about(MAX,0)=UNKNOWN");
        bound("OUTSIDE",
                ONE + "about(0,0)=0 about(0,5)=0 about(0,-1)=OUTSIDE about(0,6)=OUTSIDE about(0,MIN)=OUTSIDE"
                        + " about(0,MAX)=OUTSIDE");
        bound("UNKNOWN ahead of OUTSIDE", ONE + "about(1,6)=UNKNOWN about(-1,-1)=UNKNOWN");
        bound("what of its PRIZES is not given to anybody",
                "show(0,1) prizes(0,4,2,1) about(0,5)=7 close(0) about(0,5)=7",
                ONE + "prizes(0,4,2,1) about(0,5)=7 close(0) about(0,5)=3",
                "show(0,1) 2*entry(0) prizes(0,5,2,1) begin(0,0) points(1) end() close(0) about(0,5)=1",
                "show(0,1) 2*entry(0) prizes(0,5,2,1) close(0) told(0,6)=3 about(0,5)=2",
                "show(0,1) show(0,1) entry(1) prizes(0,5,2,1) prizes(1,9,0,0) close(0) close(1) about(0,5)=8"
                        + " about(1,5)=0");
        bound("the last of 12",
                "11*show(0,5) show(3,4) 60*entry(11) about(11,0)=3 about(11,1)=55 about(11,2)=4 about(11,3)=60"
                        + " about(11,4)=0 about(12,0)=UNKNOWN");
    }

    private static void uphold() {
        promise(25);
        bound("UNKNOWN",
                ONE + "uphold(0)=UNKNOWN begin(0,0) points(1) points(2) end() uphold(2)=UNKNOWN uphold(-1)=UNKNOWN"
                        + " uphold(MIN)=UNKNOWN uphold(MAX)=UNKNOWN uphold(1)=1 uphold(0)=1 mark(0,0)=0");
        bound("STATE: a SCORING stands",
                IN + "points(1) uphold(0)=STATE end() begin(0,0) uphold(0)=STATE drop() uphold(0)=1");
        bound("STATE: it does not count already",
                IN + "points(1) end() uphold(0)=1 uphold(0)=STATE undo()=1 uphold(0)=1 uphold(0)=STATE mark(0,0)=0");
        bound("STATE opens nothing", IN + "points(1) end() uphold(0)=1 close(0)=1 uphold(0)=STATE about(0,4)=1");
        bound("UNKNOWN ahead of STATE", IN + "points(1) uphold(1)=UNKNOWN uphold(-1)=UNKNOWN uphold(0)=STATE");
        bound("the last of 400",
                IN + "399*points(1) deduct(7) end() uphold(400)=UNKNOWN uphold(399)=1 told(0,2)=0 event(399,4)=0"
                        + " uphold(0)=1 mark(0,0)=398 count(5)=400 begin(0,0) points(1)=FULL");
        bound("a REMARK, if no other EVENT that counts gave it",
                IN + "remark(3) remark(3) remark(4) end() uphold(0)=1 told(0,3)=24 uphold(1)=1 told(0,3)=16"
                        + " uphold(2)=1 told(0,3)=0 undo()=1 told(0,3)=16");
        bound("not another ENTRY's REMARK",
                "show(0,1) 2*entry(0) begin(0,0) remark(3) begin(0,1) remark(3) end() end() uphold(0)=1 told(0,3)=0"
                        + " told(1,3)=8");
        bound("its CLASS is OPEN, and no other",
                "show(0,1) show(0,1) entry(0) entry(1) begin(0,0) points(1) begin(1,1) points(1) end() end()"
                        + " close(0) close(1) uphold(1)=1 about(0,4)=1 about(1,4)=0 told(1,6)=0 entry(1)=2");
        bound("RULES see it still",
                IN + "points(5) points(5) end() uphold(1) begin(0,0) rule(1,2,4) save(0)=DROPPED clearRules()"
                        + " begin(0,0) rule(1,3,1) save(0)=DROPPED clearRules() begin(0,0) rule(1,10,1)"
                        + " save(0)=DROPPED clearRules() begin(0,0) rule(1,5,5) save(0)=WELL clearRules()"
                        + " rule(1,6,6) save(0)=DROPPED");
        bound("points of 0 may be upheld too", IN + "points(0) end() uphold(0)=1 event(0,4)=0 uphold(0)=STATE");
    }

    private static void event() {
        promise(26);
        bound("UNKNOWN",
                "event(0,0)=UNKNOWN " + IN + "event(0,0)=UNKNOWN points(4) event(0,3)=4 event(1,0)=UNKNOWN"
                        + " event(-1,0)=UNKNOWN event(MIN,0)=UNKNOWN event(MAX,0)=UNKNOWN");
        bound("OUTSIDE",
                IN + "points(4) event(0,0)=0 event(0,4)=1 event(0,-1)=OUTSIDE event(0,5)=OUTSIDE"
                        + " event(0,MIN)=OUTSIDE event(0,MAX)=OUTSIDE");
        bound("UNKNOWN ahead of OUTSIDE", IN + "points(4) event(1,5)=UNKNOWN event(-1,-1)=UNKNOWN");
        bound("each sort, its edges",
                "show(0,1) show(0,2) entry(0) entry(1) begin(2,1) points(-6000) deduct(6000) remark(7) event(0,0)=0"
                        + " event(0,1)=2 event(0,2)=1 event(0,3)=-6000 event(1,0)=1 event(1,1)=2 event(1,2)=1"
                        + " event(1,3)=6000 event(2,0)=2 event(2,1)=2 event(2,2)=1 event(2,3)=7");
        bound("the last of 400",
                IN + "399*points(1) remark(6) event(399,0)=2 event(399,3)=6 event(399,4)=1 event(400,0)=UNKNOWN");
        bound("gone with its SCORING",
                IN + "points(4) drop() event(0,0)=UNKNOWN",
                IN + "points(4) end() event(0,0)=0 undo() event(0,0)=UNKNOWN");
        bound("one in the place of another counts",
                IN + "points(4) end() uphold(0) begin(0,0) points(3) event(1,4)=1 drop() begin(0,0) deduct(2)"
                        + " event(1,0)=1 event(1,3)=2 event(1,4)=1 event(0,4)=0");
    }

    private static void failure() {
        promise(27);
        String one = IN + "rule(0,2,0) guard(0,0) points(1)=CAUGHT ";
        bound("UNKNOWN",
                "failure(0,0)=UNKNOWN " + one + "failure(0,0)=2 failure(1,0)=UNKNOWN failure(-1,0)=UNKNOWN"
                        + " failure(MIN,0)=UNKNOWN failure(MAX,0)=UNKNOWN");
        bound("OUTSIDE",
                one + "failure(0,0)=2 failure(0,5)=1 failure(0,-1)=OUTSIDE failure(0,6)=OUTSIDE"
                        + " failure(0,MIN)=OUTSIDE failure(0,MAX)=OUTSIDE");
        bound("UNKNOWN ahead of OUTSIDE",
                "failure(0,6)=UNKNOWN " + one + "failure(1,6)=UNKNOWN failure(-1,-1)=UNKNOWN");
        bound("-1: none", one + "failure(0,1)=0 failure(0,2)=NONE failure(0,3)=NONE");
        bound("they stay",
                one + "clearRules() drop() undo()=STATE failure(0,0)=2 failure(0,1)=0 failure(0,4)=1 failure(0,5)=1");
        bound("the most SCORINGS and EVENTS",
                ONE + "8*begin(0,0) 399*points(0) rule(0,10,399) guard(0,0) points(0)=CAUGHT failure(0,4)=8"
                        + " failure(0,5)=400");
    }

    private static void failuresAtMost() {
        promise(27);
        String caught = IN + "rule(0,2,0) guard(0,0) ";
        bound("200 at most; more are counted alone",
                caught + "199*points(1) failure(199,0)=UNKNOWN points(2)=CAUGHT count(7)=200 failure(199,0)=2"
                        + " failure(199,5)=1 failure(200,0)=UNKNOWN points(3)=CAUGHT count(7)=201"
                        + " failure(200,0)=UNKNOWN failure(199,0)=2 count(8)=201 failure(0,0)=2");
        bound("the 200th with its cause",
                caught + "198*points(1) begin(0,0) points(1)=CAUGHT count(7)=200 failure(199,0)=4"
                        + " failure(199,2)=198 failure(199,1)=NONE failure(200,0)=UNKNOWN count(8)=199");
        bound("the 200th is a cause",
                caught + "199*points(1) begin(0,0) points(1)=CAUGHT count(7)=201 failure(199,0)=2 failure(199,4)=2"
                        + " failure(200,0)=UNKNOWN count(8)=200 depth()=1");
        bound("the 200th is SUPPRESSED",
                caught + "198*points(1) 2*rule(3,10,0) begin(0,0) points(1)=CAUGHT count(7)=202 failure(198,0)=2"
                        + " failure(199,0)=10 failure(199,1)=1 failure(199,3)=198 failure(200,0)=UNKNOWN");
        bound("the 200th is HEARD",
                caught + "199*points(1) end() 2*observe(1) begin(0,0) end()=THREW count(7)=201 failure(199,0)=11"
                        + " failure(199,1)=-2 failure(200,0)=UNKNOWN");
        bound("behind 200 the OUTCOMES are the same",
                caught + "200*points(1) begin(0,0) points(1)=CAUGHT depth()=1 end() begin(0,0) points(1)=DROPPED"
                        + " depth()=0 clearRules() observe(1) begin(0,0) end()=THREW count(7)=204 count(8)=201");
    }

    private static void kinds() {
        promise(28);
        String[] of = {"0", "01", "012", "013", "04", "045", "046", "07", "078", "09", "09a", "0b"};
        for (int a = 0; a < 12; a++) {
            StringBuilder run = new StringBuilder();
            for (int b = 0; b < 12; b++) {
                int due = of[a].indexOf(Character.forDigit(b, 16)) >= 0 ? 1 : 0;
                run.append("is(").append(a).append(',').append(b).append(")=").append(due).append(' ');
            }
            bound("what KIND " + a + " is of", run.toString());
        }
        bound("OUTSIDE: a",
                "is(0,0)=1 is(11,0)=1 is(-1,0)=OUTSIDE is(12,0)=OUTSIDE is(MIN,0)=OUTSIDE is(MAX,0)=OUTSIDE");
        bound("OUTSIDE: b",
                "is(0,0)=1 is(11,11)=1 is(0,-1)=OUTSIDE is(0,12)=OUTSIDE is(0,MIN)=OUTSIDE is(0,MAX)=OUTSIDE");
    }

    private static void undo() {
        promise(29);
        bound("STATE: there is none", "undo()=STATE " + ONE + "prizes(0,1,1,1) observe(0) rule(0,2,0) undo()=STATE");
        bound("STATE: a SCORING stands",
                IN + "undo()=STATE points(1) end() begin(0,0) undo()=STATE drop() undo()=1 count(5)=0");
        bound("STATE: it was undone",
                IN + "points(1) end() undo()=1 undo()=STATE",
                IN + "points(1) end() begin(0,0) points(2) end() undo()=1 mark(0,0)=1 undo()=STATE mark(0,0)=1");
        bound("one that is refused is none",
                IN + "points(1) end() close(1)=UNKNOWN uphold(1)=UNKNOWN end()=STATE undo()=1 count(5)=0",
                ONE + "close(0) close(0)=STATE undo()=1 about(0,4)=0 undo()=STATE",
                IN + "points(1) end() uphold(0) uphold(0)=STATE undo()=1 mark(0,0)=1 undo()=STATE");
        bound("what is dropped is none",
                IN + "points(1) end() begin(0,0) points(2) drop() undo()=1 mark(0,0)=0",
                IN + "points(1) end() rule(0,2,5) begin(0,0) points(6)=DROPPED undo()=1 mark(0,0)=0",
                IN + "points(1) end() rule(2,10,1) begin(0,0) points(1) end()=DROPPED undo()=1 mark(0,0)=0");
        bound("an inner SCORING's end is none",
                IN + "points(1) begin(0,0) points(2) end() drop() undo()=STATE",
                IN + "points(1) begin(0,0) points(2) end() end() undo()=1 count(5)=0");
    }

    private static void undoOfEach() {
        promise(29);
        bound("an ACT: as at the outermost SCORING's begin",
                IN + "points(1) end() begin(0,0) points(2) deduct(3) remark(4) save(1) end() undo()=1 mark(0,0)=1"
                        + " told(0,2)=0 told(0,3)=0 count(5)=1 count(6)=2");
        bound("an ACT of 400 EVENTS",
                IN + "400*points(1) end() undo()=1 count(5)=0 mark(0,0)=0 begin(0,0) points(1)=WELL");
        bound("an ACT of none", IN + "points(1) end() begin(0,0) end() undo()=1 mark(0,0)=1 undo()=STATE");
        bound("an ACT of which an OBSERVER threw",
                IN + "observe(1) points(1) end()=THREW undo()=1 count(5)=0 count(7)=1 count(9)=1");
        bound("a close()",
                ONE + "close(0) undo()=1 about(0,4)=0 entry(0)=1",
                "12*show(0,1) close(10) close(11) undo()=1 about(11,4)=0 about(10,4)=1 undo()=STATE");
        bound("an uphold() of a CLOSED CLASS and of an OPEN one",
                IN + "points(1) end() close(0) uphold(0) about(0,4)=0 undo()=1 about(0,4)=1 event(0,4)=1 mark(0,0)=1",
                IN + "points(1) end() uphold(0) undo()=1 about(0,4)=0 event(0,4)=1 mark(0,0)=1");
        bound("what is no part of THE LEDGER stays",
                ONE + "close(0) show(0,1) entry(1) prizes(1,1,2,3) rule(0,2,0) observe(0) undo()=1 count(0)=2"
                        + " count(1)=2 count(3)=1 count(4)=1 about(1,5)=6");
        bound("undone, then another",
                IN + "points(1) end() undo()=1 begin(0,0) points(2) end() undo()=1 count(5)=0 close(0) undo()=1"
                        + " undo()=STATE");
    }

    private static void count() {
        promise(30);
        bound("OUTSIDE",
                "count(0)=0 count(9)=0 count(-1)=OUTSIDE count(10)=OUTSIDE count(MIN)=OUTSIDE count(MAX)=OUTSIDE");
        bound("at their most",
                "12*show(0,5) 60*entry(0) 24*rule(3,2,0) 6*observe(0) count(0)=12 count(1)=60 count(2)=60"
                        + " count(3)=24 count(4)=6");
        bound("EVENTS, as they are", IN + "points(1) points(2) count(5)=2 drop() count(5)=0");
        bound("ACTS ever, FAILURES ever",
                IN + "end() undo() count(6)=1 begin(0,0) end() count(6)=2 rule(0,2,0) begin(0,0) points(1)=DROPPED"
                        + " count(7)=1 clearRules() count(7)=1");
        bound("of these CAUGHT",
                ONE + "begin(0,0) guard(0,0) begin(0,0) rule(0,2,0) rule(3,10,0) points(1)=CAUGHT count(7)=3"
                        + " count(8)=1");
        bound("tellings", ONE + "6*observe(0) begin(0,0) end() begin(0,0) end() count(9)=12");
    }

    /** The document's h, reckoned without a bound and wrapped in the end. */
    private static long wrapped(long... numbers) {
        BigInteger h = BigInteger.valueOf(37);
        for (long n : numbers) {
            h = h.multiply(BigInteger.valueOf(31)).add(BigInteger.valueOf(n));
        }
        return h.longValue();
    }

    private static void digest() {
        promise(31);
        bound("of nothing", "digest()=" + 37L * 31 * 31);
        bound("the last that fits a long, the first that wraps",
                "9*show(0,1) digest()=" + wrapped(new long[11]),
                "10*show(0,1) digest()=" + wrapped(new long[12]));
        bound("MARKS, OFF, REMARKS; EVENTS; CLASSES; SCORINGS, SAVEPOINTS in all",
                "show(0,2) show(0,1) 2*entry(0) entry(1) close(1) begin(1,1) points(-9) save(1) save(2) begin(0,0)"
                        + " deduct(5) remark(7) save(1) digest()="
                        + wrapped(0, 0, 5, 128, 0, -9, 0, 0, 0, 0, 0, 0, 1, 1, -9, 1, 1, 0, 0, 5, 1, 2, 0, 0, 7, 1,
                                0, 1, 2, 3));
        bound("an EVENT that does not count",
                IN + "points(4) end() uphold(0) digest()=" + wrapped(0, 0, 0, 0, 0, 0, 4, 0, 0, 0, 0));
        bound("of 400 EVENTS", IN + "400*points(-6000) digest()=" + wrapped(fourHundred()));
        bound("of 8 SCORINGS with 16 SAVEPOINTS each",
                ONE + ("begin(0,0) " + sixteenSaved()).repeat(8) + "digest()=" + wrapped(0, 0, 0, 0, 8, 128));
    }

    private static long[] fourHundred() {
        long[] numbers = new long[3 + 400 * 5 + 3];
        numbers[0] = -2400000;
        for (int i = 0; i < 400; i++) {
            numbers[3 + i * 5 + 3] = -6000;
            numbers[3 + i * 5 + 4] = 1;
        }
        numbers[numbers.length - 2] = 1;
        return numbers;
    }

    /** Something to undo each time: a close(), an uphold(), an ACT. */
    private static void refusedWhileIdle() {
        for (String much : new String[] {MUCH, UPHELD, ACTED}) {
            promise(9);
            bound("refused where much is kept", much + "points(1)=STATE points(6001)=OUTSIDE");
            promise(10);
            bound("refused where much is kept", much + "deduct(1)=STATE deduct(6001)=OUTSIDE");
            promise(11);
            bound("refused where much is kept", much + "remark(1)=STATE remark(8)=OUTSIDE");
            promise(12);
            bound("refused where much is kept", much + "save(1)=STATE save(16)=OUTSIDE");
            promise(13);
            bound("refused where much is kept", much + "back(1)=STATE back(16)=OUTSIDE");
            promise(14);
            bound("refused where much is kept", much + "release(1)=STATE release(16)=OUTSIDE");
            promise(15);
            bound("refused where much is kept", much + "guard(0,1)=STATE guard(12,0)=OUTSIDE guard(0,16)=OUTSIDE");
            promise(16);
            bound("refused where much is kept", much + "end()=STATE");
            promise(17);
            bound("refused where much is kept", much + "drop()=STATE");
            promise(23);
            bound("refused where much is kept", much + "close(2)=STATE close(3)=UNKNOWN close(-1)=UNKNOWN");
            refusedWhereMuchIsKept(much);
        }
        promise(25);
        bound("refused where much is kept",
                UPHELD + "uphold(0)=STATE uphold(3)=STATE uphold(99)=UNKNOWN uphold(-1)=UNKNOWN");
        promise(29);
        bound("refused where much is kept",
                MUCH + "undo()=1 undo()=STATE",
                UPHELD + "undo()=1 undo()=STATE",
                ACTED + "undo()=1 undo()=STATE");
    }

    private static void refusedWhileScoring() {
        promise(9);
        bound("refused while two stand", WITHIN + "points(6001)=OUTSIDE points(-6001)=OUTSIDE");
        promise(10);
        bound("refused while two stand", WITHIN + "deduct(-1)=OUTSIDE deduct(6001)=OUTSIDE");
        promise(11);
        bound("refused while two stand", WITHIN + "remark(-1)=OUTSIDE remark(8)=OUTSIDE");
        promise(12);
        bound("refused while two stand", WITHIN + "save(-1)=OUTSIDE save(16)=OUTSIDE");
        promise(13);
        bound("refused while two stand", WITHIN + "back(-1)=OUTSIDE back(16)=OUTSIDE back(2)=STATE back(5)=STATE");
        promise(14);
        bound("refused while two stand",
                WITHIN + "release(-1)=OUTSIDE release(16)=OUTSIDE release(2)=STATE release(5)=STATE");
        promise(15);
        bound("refused while two stand",
                WITHIN + "guard(-1,0)=OUTSIDE guard(12,0)=OUTSIDE guard(0,-1)=OUTSIDE guard(0,16)=OUTSIDE");
        promise(19);
        bound("refused while two stand",
                WITHIN + "scoring(0,-1)=OUTSIDE scoring(1,MIN)=OUTSIDE scoring(2,0)=UNKNOWN");
        promise(23);
        bound("refused while two stand", WITHIN + "close(0)=STATE close(1)=STATE close(2)=STATE close(3)=UNKNOWN");
        promise(25);
        bound("refused while two stand",
                WITHIN + "uphold(0)=STATE uphold(1)=STATE uphold(99)=UNKNOWN uphold(-1)=UNKNOWN");
        promise(29);
        bound("refused while two stand", WITHIN + "undo()=STATE");
        refusedWhereMuchIsKept(WITHIN);
    }

    /** The refusals that do not ask whether a SCORING stands. */
    private static void refusedWhereMuchIsKept(String much) {
        promise(2);
        bound("refused where much is kept",
                much + "show(-1,1)=OUTSIDE show(4,1)=OUTSIDE show(0,0)=OUTSIDE show(0,6)=OUTSIDE");
        promise(3);
        bound("refused where much is kept", much + "entry(-1)=UNKNOWN entry(3)=UNKNOWN entry(2)=STATE");
        promise(4);
        bound("refused where much is kept",
                much + "prizes(3,1,1,1)=UNKNOWN prizes(-1,1,1,1)=UNKNOWN prizes(0,1,1,-1)=OUTSIDE"
                        + " prizes(1,1000001,1,1)=OUTSIDE prizes(1,1,1000001,1)=OUTSIDE prizes(2,1,1,1)=STATE");
        promise(5);
        bound("refused where much is kept", much + "rule(-1,2,0)=OUTSIDE rule(4,2,0)=OUTSIDE rule(0,1,0)=OUTSIDE");
        promise(7);
        bound("refused where much is kept", much + "observe(-1)=OUTSIDE");
        promise(8);
        bound("refused where much is kept",
                much + "begin(-1,0)=UNKNOWN begin(6,0)=UNKNOWN begin(0,-1)=UNKNOWN begin(0,6)=UNKNOWN"
                        + " begin(0,3)=OUTSIDE begin(2,0)=OUTSIDE begin(5,5)=STATE");
        promise(19);
        bound("refused where much is kept", much + "scoring(-1,0)=UNKNOWN scoring(8,0)=UNKNOWN");
        promise(20);
        bound("refused where much is kept",
                much + "told(-1,0)=UNKNOWN told(6,0)=UNKNOWN told(0,-1)=OUTSIDE told(0,7)=OUTSIDE");
        promise(21);
        bound("refused where much is kept", much + "mark(-1,0)=UNKNOWN mark(0,6)=UNKNOWN mark(0,2)=OUTSIDE");
        promise(22);
        bound("refused where much is kept", much + "place(-1,0)=UNKNOWN place(3,0)=UNKNOWN");
        promise(24);
        bound("refused where much is kept",
                much + "about(-1,0)=UNKNOWN about(3,0)=UNKNOWN about(0,-1)=OUTSIDE about(0,6)=OUTSIDE");
        promise(26);
        bound("refused where much is kept",
                much + "event(-1,0)=UNKNOWN event(99,0)=UNKNOWN event(0,-1)=OUTSIDE event(0,5)=OUTSIDE");
        promise(27);
        bound("refused where much is kept",
                much + "failure(-1,0)=UNKNOWN failure(99,0)=UNKNOWN failure(0,-1)=OUTSIDE failure(0,6)=OUTSIDE");
        promise(28);
        bound("refused where much is kept", much + "is(-1,0)=OUTSIDE is(0,12)=OUTSIDE");
        promise(30);
        bound("refused where much is kept", much + "count(-1)=OUTSIDE count(10)=OUTSIDE");
    }

    private static void refusedWhenFull() {
        promise(2);
        bound("FULL where much is kept",
                MUCH + "9*show(0,1) show(0,1)=FULL show(3,5)=FULL",
                WITHIN + "9*show(0,1) show(0,1)=FULL");
        promise(3);
        bound("FULL where much is kept",
                MUCH + "54*entry(0) entry(0)=FULL entry(1)=FULL entry(2)=STATE entry(3)=UNKNOWN",
                WITHIN + "54*entry(0) entry(0)=FULL");
        promise(5);
        bound("FULL where much is kept",
                MUCH + "20*rule(0,2,6000) rule(0,2,0)=FULL rule(3,10,0)=FULL",
                WITHIN + "20*rule(0,2,6000) rule(0,2,0)=FULL");
        promise(7);
        bound("FULL where much is kept",
                MUCH + "3*observe(2) observe(0)=FULL observe(1)=FULL",
                WITHIN + "3*observe(2) observe(1)=FULL");
        promise(8);
        bound("FULL where much is kept", WITHIN + "6*begin(0,0) save(3) guard(0,3) begin(0,0)=FULL begin(2,3)=FULL");
        promise(15);
        bound("FULL where much is kept", WITHIN + "6*guard(3,5) guard(0,0)=FULL guard(2,7)=FULL");
        String full = WITHIN + "387*remark(6) ";
        promise(9);
        bound("FULL where much is kept", full + "count(5)=400 points(1)=FULL points(-6000)=FULL");
        promise(10);
        bound("FULL where much is kept", full + "count(5)=400 deduct(1)=FULL");
        promise(11);
        bound("FULL where much is kept", full + "count(5)=400 remark(0)=FULL remark(6)=FULL");
    }
}
