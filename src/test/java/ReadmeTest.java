import java.io.IOException;
import java.lang.reflect.Method;
import java.lang.reflect.Modifier;
import java.net.URL;
import java.net.URLClassLoader;
import java.nio.file.Files;
import java.nio.file.Path;
import java.util.Comparator;
import java.util.List;
import java.util.Map;
import java.util.Set;
import java.util.TreeSet;
import java.util.regex.Matcher;
import java.util.regex.Pattern;
import java.util.stream.Stream;
import javax.tools.JavaCompiler;
import javax.tools.ToolProvider;

/** Whether the class answers what README.md shows. BoundsTest compares the refusals that it tells. */
public final class ReadmeTest {
    private static final String NEW = "JudgesLedger ledger = new JudgesLedger();";
    /** A call with the answer that is due behind it: a number, a constant or an earlier variable. */
    private static final Pattern CALL = Pattern.compile(
            "((?:(?:int|long) (\\w+) = )?(ledger\\.(\\w+)\\([^;]*\\));)\\s+// (-?\\w+)(?::? .*)?");
    private static final Pattern WHAT = Pattern.compile("(?:^|[,:] )(\\d+) ");
    private static final Pattern FULL = Pattern.compile("FULL \\((\\d+)");
    /** Behind what, and how, a call is made until it is FULL. */
    private static final Map<String, String[]> UNTIL_FULL = Map.of(
            "show", new String[] {"", "show(0,1)"},
            "entry", new String[] {"show(0,1) ", "entry(0)"},
            "rule", new String[] {"", "rule(0,10,400)"},
            "observe", new String[] {"", "observe(0)"},
            "begin", new String[] {"show(0,1) entry(0) ", "begin(0,0)"},
            "points", new String[] {"show(0,1) entry(0) begin(0,0) ", "points(1)"},
            "deduct", new String[] {"show(0,1) entry(0) begin(0,0) ", "deduct(1)"},
            "remark", new String[] {"show(0,1) entry(0) begin(0,0) ", "remark(1)"},
            "guard", new String[] {"show(0,1) entry(0) begin(0,0) ", "guard(0,0)"});

    private static final Set<String> shown = new TreeSet<>();
    private static int answers = 0;
    private static int wrong = 0;

    private static void must(boolean holds, String what) {
        if (!holds) {
            wrong++;
            System.out.println("not so: " + what);
        }
    }

    /** Asked by the examples. */
    public static void due(String line, long got, long want) {
        answers++;
        must(got == want, "'" + line + "', the class answers " + got);
    }

    public static void main(String[] args) throws Exception {
        List<List<String>> examples = Readme.examples();
        for (int n = 0; n < examples.size(); n++) {
            run("Example" + n, javaOf("Example" + n, examples.get(n)));
        }
        everyCallIsShown();
        fullIsAsTold();
        whatIsAsTold();
        kindsAreAsTold();
        System.out.println(examples.size() + " examples, " + answers + " answers asked, " + wrong + " not as due");
        if (wrong != 0) {
            System.exit(1);
        }
    }

    private static String javaOf(String name, List<String> lines) {
        StringBuilder code = new StringBuilder("public final class " + name + " {\n"
                + "static final int NONE = JudgesLedger.NONE, UNKNOWN = JudgesLedger.UNKNOWN,\n"
                + "OUTSIDE = JudgesLedger.OUTSIDE, STATE = JudgesLedger.STATE, FULL = JudgesLedger.FULL;\n"
                + "public static void run() {\n");
        must(lines.indexOf(NEW) == 0 && lines.lastIndexOf(NEW) == 0, name + " begins with a new object, its only one");
        must(lines.size() <= Calls.MOST, name + " has at most " + Calls.MOST + " calls");
        for (String line : lines) {
            Matcher m = CALL.matcher(line);
            if (!m.matches()) {
                must(line.equals(NEW), "'" + line + "' is a call with its answer");
                code.append(line).append('\n');
                continue;
            }
            shown.add(m.group(4));
            String got = m.group(2);
            code.append(got == null ? "" : m.group(1)).append(" ReadmeTest.due(\"").append(line).append("\", ")
                    .append(got == null ? m.group(3) : got).append(", ").append(literal(m.group(5))).append(");\n");
        }
        return code.append("}\n}\n").toString();
    }

    private static String literal(String due) {
        return due.matches("-?\\d+") ? due + "L" : due;
    }

    private static void run(String name, String code) throws Exception {
        Path dir = Files.createTempDirectory("readme");
        try {
            Path file = Files.writeString(dir.resolve(name + ".java"), code);
            JavaCompiler javac = ToolProvider.getSystemJavaCompiler();
            int refused = javac.run(null, null, null, "-cp", System.getProperty("java.class.path"),
                    "-d", dir.toString(), file.toString());
            must(refused == 0, name + " of README.md is Java");
            if (refused == 0) {
                try (URLClassLoader loader = new URLClassLoader(new URL[] {dir.toUri().toURL()})) {
                    loader.loadClass(name).getMethod("run").invoke(null);
                }
            }
        } finally {
            delete(dir);
        }
    }

    private static void delete(Path dir) throws IOException {
        try (Stream<Path> files = Files.walk(dir)) {
            for (Path file : files.sorted(Comparator.reverseOrder()).toList()) {
                Files.delete(file);
            }
        }
    }

    /** In an example, and in a row of its own of the table of calls. */
    private static void everyCallIsShown() {
        Set<String> face = new TreeSet<>();
        Set<String> names = new TreeSet<>();
        for (Method m : JudgesLedger.class.getDeclaredMethods()) {
            if (Modifier.isPublic(m.getModifiers())) {
                face.add(m.getName() + " " + m.getParameterCount());
                names.add(m.getName());
            }
        }
        Set<String> rows = new TreeSet<>();
        for (String[] row : Readme.table("Call")) {
            String args = row[0].substring(row[0].indexOf('(') + 1, row[0].indexOf(')'));
            int count = args.isEmpty() ? 0 : args.split(",").length;
            must(row.length == 3 && rows.add(Readme.nameOf(row) + " " + count), "one row of three cells: " + row[0]);
        }
        must(rows.equals(face), "the table of calls has the face: " + rows);
        must(shown.equals(names), "the examples show every call: " + shown);
    }

    private static void fullIsAsTold() {
        Set<String> told = new TreeSet<>();
        for (String[] row : Readme.table("Call")) {
            Matcher m = FULL.matcher(row[2]);
            String[] form = UNTIL_FULL.get(Readme.nameOf(row));
            if (m.find() && form != null) {
                told.add(Readme.nameOf(row));
                refusedOnlyLast(Calls.parse(form[0] + m.group(1) + "*" + form[1] + " " + form[1]));
            }
        }
        must(told.equals(new TreeSet<>(UNTIL_FULL.keySet())), "the table tells how many make it FULL: " + told);
    }

    private static void refusedOnlyLast(List<Calls.Call> calls) {
        JudgesLedger x = new JudgesLedger();
        for (int n = 0; n < calls.size(); n++) {
            answers++;
            boolean last = n == calls.size() - 1;
            must((calls.get(n).on(x) == JudgesLedger.FULL) == last, calls.get(n).text() + " is FULL at call " + n);
        }
    }

    /** "0 class, 1 total" of a row: what is inside up to the last number told, and outside behind it. */
    private static void whatIsAsTold() {
        for (String[] row : Readme.table("Call")) {
            if (row[0].endsWith("what)`") && !row[0].startsWith("`scoring")) {
                int last = -1;
                Matcher m = WHAT.matcher(row[1].replaceAll("\\([^)]*\\)", ""));
                while (m.find()) {
                    last++;
                    must(m.group(1).equals(String.valueOf(last)), row[0] + " tells of what = " + last);
                }
                whatIsInsideTo(last, Readme.nameOf(row), row[0].contains(",") ? "0," : "");
            }
        }
    }

    private static void whatIsInsideTo(int last, String name, String ahead) {
        String show = "show(0,1) entry(0) rule(0,10,0) begin(0,0) points(1) clearRules() begin(0,0) points(1) end() ";
        for (int what = 0; what <= last + 1; what++) {
            JudgesLedger x = new JudgesLedger();
            long got = 0;
            for (Calls.Call call : Calls.parse(show + name + "(" + ahead + what + ")")) {
                got = call.on(x);
            }
            answers++;
            must((got == JudgesLedger.OUTSIDE) == (what > last) && got != JudgesLedger.UNKNOWN,
                    name + " with what = " + what + " answers " + got);
        }
    }

    private static void kindsAreAsTold() {
        List<String[]> kinds = Readme.table("Kind");
        JudgesLedger x = new JudgesLedger();
        must(x.is(kinds.size(), 0) == JudgesLedger.OUTSIDE, "the table has every kind");
        for (int a = 0; a < kinds.size(); a++) {
            must(kinds.get(a)[0].equals(String.valueOf(a)), "row " + a + " of kinds is of kind " + a);
            boolean ofRules = !kinds.get(a)[3].isEmpty();
            must((x.rule(0, a, 0) >= 0) == ofRules, "whether rules have kind " + a);
            for (int b = 0; b < kinds.size(); b++) {
                answers++;
                must(x.is(a, b) == (isOf(kinds, a, b) ? 1 : 0), "whether kind " + a + " is of kind " + b);
            }
        }
    }

    private static boolean isOf(List<String[]> kinds, int a, int b) {
        int kind = a;
        for (int level = 0; level < kinds.size() && kind != b; level++) {
            String above = kinds.get(kind)[2];
            if (above.isEmpty()) {
                return false;
            }
            kind = Integer.parseInt(above);
        }
        return kind == b;
    }
}
