import java.io.IOException;
import java.io.UncheckedIOException;
import java.nio.file.Files;
import java.nio.file.Path;
import java.util.ArrayList;
import java.util.List;
import java.util.Set;
import java.util.TreeSet;
import java.util.regex.Matcher;
import java.util.regex.Pattern;

/** What README.md shows: its examples in Java and the rows of its tables. */
final class Readme {
    private static final Path FILE = Path.of("README.md");
    private static final Pattern REFUSAL = Pattern.compile("\\b(UNKNOWN|OUTSIDE|STATE|FULL)\\b");

    private Readme() {
    }

    private static List<String> lines() {
        try {
            return Files.readAllLines(FILE);
        } catch (IOException e) {
            throw new UncheckedIOException(e);
        }
    }

    static List<List<String>> examples() {
        List<List<String>> examples = new ArrayList<>();
        boolean within = false;
        for (String line : lines()) {
            if (line.startsWith("```")) {
                within = line.equals("```java");
                if (within) {
                    examples.add(new ArrayList<>());
                }
            } else if (within) {
                examples.get(examples.size() - 1).add(line);
            }
        }
        return examples;
    }

    /** The rows of the table whose first column has this head, without the head. */
    static List<String[]> table(String firstHead) {
        List<String[]> rows = new ArrayList<>();
        boolean within = false;
        for (String line : lines()) {
            if (line.startsWith("| " + firstHead + " |")) {
                within = true;
            } else if (!line.startsWith("|")) {
                within = false;
            } else if (within && !line.startsWith("|-")) {
                rows.add(cells(line));
            }
        }
        return rows;
    }

    private static String[] cells(String line) {
        String[] parts = line.split("\\|", -1);
        String[] cells = new String[parts.length - 2];
        for (int k = 0; k < cells.length; k++) {
            cells[k] = parts[k + 1].trim();
        }
        return cells;
    }

    static String nameOf(String[] rowOfCall) {
        return rowOfCall[0].substring(1, rowOfCall[0].indexOf('('));
    }

    /** Of each call what the table of calls lets it refuse, in the order told, such as "entry: UNKNOWN STATE FULL". */
    static Set<String> refusals() {
        Set<String> refusals = new TreeSet<>();
        for (String[] row : table("Call")) {
            StringBuilder text = new StringBuilder(nameOf(row)).append(':');
            Matcher m = REFUSAL.matcher(row[2]);
            while (m.find()) {
                text.append(' ').append(m.group());
            }
            refusals.add(text.toString());
        }
        return refusals;
    }
}
