import java.io.IOException;
import java.lang.reflect.Constructor;
import java.lang.reflect.Field;
import java.lang.reflect.Method;
import java.lang.reflect.Modifier;
import java.nio.file.Files;
import java.nio.file.Path;
import java.util.ArrayList;
import java.util.Arrays;
import java.util.List;
import java.util.Set;
import java.util.TreeSet;
import java.util.regex.Pattern;

/** The face of the class, and those rules of LANGUAGE.md that a plain look can see. */
public final class LanguageTest {
    private static final Path SOURCE = Path.of("src/main/java/JudgesLedger.java");
    private static final String[] FACE = {"about(int,int)int", "back(int)int", "begin(int,int)int",
        "clearRules()int", "close(int)int", "count(int)int", "deduct(int)int", "depth()int", "digest()long",
        "drop()int", "end()int", "entry(int)int", "event(int,int)int", "failure(int,int)int",
        "guard(int,int)int", "is(int,int)int", "mark(int,int)int", "observe(int)int", "place(int,int)int",
        "points(int)int", "prizes(int,int,int,int)int", "release(int)int", "remark(int)int",
        "rule(int,int,int)int", "save(int)int", "scoring(int,int)int", "show(int,int)int", "told(int,int)int",
        "undo()int", "uphold(int)int"};
    private static final String[] WORDS_RULED_OUT = {"throw", "throws", "try", "catch", "finally",
        "synchronized", "assert", "import", "package", "volatile", "native", "Object", "System", "Thread"};

    private static int wrong = 0;

    private static void must(boolean holds, String what) {
        if (!holds) {
            wrong++;
            System.out.println("not so: " + what);
        }
    }

    public static void main(String[] args) throws IOException {
        face();
        nestedClasses();
        source();
        System.out.println(wrong == 0 ? "the face and the language are as due" : wrong + " are not as due");
        if (wrong != 0) {
            System.exit(1);
        }
    }

    private static void face() {
        Class<?> c = JudgesLedger.class;
        must(Modifier.isPublic(c.getModifiers()) && Modifier.isFinal(c.getModifiers()), "public final class");
        Set<String> heads = new TreeSet<>();
        Set<String> publicNames = new TreeSet<>();
        for (Method m : c.getDeclaredMethods()) {
            if (!Modifier.isPrivate(m.getModifiers())) {
                must(Modifier.isPublic(m.getModifiers()) && !Modifier.isStatic(m.getModifiers()), m + " is public");
                heads.add(head(m));
                publicNames.add(m.getName());
            }
        }
        must(heads.equals(new TreeSet<>(Arrays.asList(FACE))), "the public methods are the document's: " + heads);
        for (Method m : c.getDeclaredMethods()) {
            must(Modifier.isPublic(m.getModifiers()) || !publicNames.contains(m.getName()), m + " has a name of its own");
        }
        for (Constructor<?> k : c.getDeclaredConstructors()) {
            must(Modifier.isPublic(k.getModifiers()) && k.getParameterCount() == 0, "one public constructor");
        }
        Set<String> constants = new TreeSet<>();
        for (Field f : c.getDeclaredFields()) {
            if (!Modifier.isPrivate(f.getModifiers())) {
                constants.add(f.getName());
            }
            must(!Modifier.isStatic(f.getModifiers()) || Modifier.isFinal(f.getModifiers()), f + " is final");
        }
        must(constants.equals(Set.of("NONE", "UNKNOWN", "OUTSIDE", "STATE", "FULL")), "the constants: " + constants);
    }

    private static String head(Method m) {
        List<String> types = new ArrayList<>();
        for (Class<?> type : m.getParameterTypes()) {
            types.add(type.getName());
        }
        return m.getName() + "(" + String.join(",", types) + ")" + m.getReturnType().getName();
    }

    private static void nestedClasses() {
        Class<?>[] nested = JudgesLedger.class.getDeclaredClasses();
        must(nested.length < 12, "at most some twelve classes");
        sizes(JudgesLedger.class);
        for (Class<?> c : nested) {
            must(Modifier.isStatic(c.getModifiers()), c + " is static");
            must(!Modifier.isPublic(c.getModifiers()), c + " is not public");
            sizes(c);
        }
    }

    private static void sizes(Class<?> c) {
        int fields = 0;
        for (Field f : c.getDeclaredFields()) {
            fields += Modifier.isStatic(f.getModifiers()) ? 0 : 1;
        }
        must(fields <= 20, c + " has at most some twenty fields");
        for (Method m : c.getDeclaredMethods()) {
            must(m.getParameterCount() <= 7, m + " takes at most seven parameters");
        }
    }

    /** A method's lines stand between its head and the brace with the head's indent. */
    private static void methodsAreShort(String code) {
        String end = null;
        int lines = 0;
        for (String line : code.split("\n")) {
            lines++;
            if (line.matches(" {4}( {4})?[^ ].*\\) \\{") && end == null) {
                end = line.substring(0, line.indexOf(line.trim())) + "}";
                lines = 0;
            } else if (line.equals(end)) {
                must(lines <= 60, "a method of at most some sixty lines, not " + lines);
                end = null;
            }
        }
        must(end == null, "every method has an end");
    }

    private static void source() throws IOException {
        String text = Files.readString(SOURCE);
        String code = text.replaceAll("(?s)/\\*.*?\\*/", " ").replaceAll("//[^\n]*", " ");
        for (String word : WORDS_RULED_OUT) {
            must(!Pattern.compile("\\b" + word + "\\b").matcher(code).find(), "no '" + word + "' in the code");
        }
        methodsAreShort(code);
        must(!code.contains("->") && !code.contains("::"), "no lambda, no method reference");
        must(text.chars().allMatch(ch -> ch < 256), "characters 0 to 255 alone");
        for (String line : code.split("\n")) {
            boolean makesRow = line.matches("\\s+(private )?final .* = new .*;") || line.contains("scorings[i] = new Scoring()");
            must(!line.contains(" new ") || makesRow, "objects are made by constructors alone: " + line.trim());
        }
    }
}
