import java.io.IOException;
import java.nio.file.Files;
import java.nio.file.Path;
import java.util.HashSet;
import java.util.List;
import java.util.Set;
import java.util.regex.Matcher;
import java.util.regex.Pattern;

/** What of ../shared/LANGUAGE.md can be seen in the text of the class. */
public final class SourceRules {
    private static final Path SOURCE = Path.of("src/main/java/SwingCrane.java");
    private static final Pattern CLASS = Pattern.compile("^ *(public|private) (static )?final class (\\w+).*");
    private static final Pattern METHOD =
            Pattern.compile("^ +((?:public |private |static )*)(?:[\\w\\[\\]]+ )?(\\w+)\\(([^)]*)\\)[^;=]*\\{$");
    private static final Pattern FIELD = Pattern.compile("^ +(?:private |final )*[\\w\\[\\]]+ \\w+;$");
    /** A call of what belongs to a class; the class's own ones are called without its name. */
    private static final Pattern LIBRARY = Pattern.compile("\\b[A-Z]\\w*[a-z]\\w*\\.\\w+\\(");
    private static final Set<String> ALLOWED = Set.of("Math.abs(", "Math.max(", "Math.min(");
    private static final String[] FORBIDDEN = {"->", "::", "finally", "synchronized", "assert ", "Exact(", "catch",
        "instanceof", "System.", "Random", "Thread", "protected", "HashMap", "double", "float", "\" +", "+ \"",
        ".hashCode(", ".toString(", "extends", "implements", "@", "static {"};

    private static int wrong;

    private static void wrong(int line, String what) {
        wrong++;
        System.out.println("line " + line + ": " + what);
    }

    public static void main(String[] args) throws IOException {
        List<String> lines = Files.readAllLines(SOURCE);
        words(lines);
        methods(lines);
        classes(lines);
        if (wrong > 0) {
            System.exit(1);
        }
    }

    private static void words(List<String> lines) {
        for (int i = 0; i < lines.size(); i++) {
            String line = lines.get(i);
            for (String word : FORBIDDEN) {
                if (line.contains(word)) {
                    wrong(i + 1, "has " + word);
                }
            }
            Matcher library = LIBRARY.matcher(line);
            while (library.find()) {
                if (!ALLOWED.contains(library.group())) {
                    wrong(i + 1, "calls " + library.group());
                }
            }
            if (line.startsWith("import") && !line.equals("import java.util.NoSuchElementException;")) {
                wrong(i + 1, "imports another class");
            }
            if (line.chars().anyMatch(sign -> sign > 126 || sign < 32)) {
                wrong(i + 1, "has a sign beyond 32 .. 126");
            }
        }
    }

    private static void methods(List<String> lines) {
        Set<String> face = new HashSet<>();
        for (String line : lines) {
            Matcher m = METHOD.matcher(line);
            if (m.matches() && m.group(1).contains("public")) {
                face.add(m.group(2));
            }
        }
        if (face.size() != 47) {
            wrong(0, "the face has " + face.size() + " names, not 47");
        }
        for (int i = 0; i < lines.size(); i++) {
            Matcher m = METHOD.matcher(lines.get(i));
            if (!m.matches() || List.of("for", "if", "while", "switch").contains(m.group(2))) {
                continue;
            }
            if (!m.group(1).contains("public") && face.contains(m.group(2))) {
                wrong(i + 1, m.group(2) + " is a name of the face");
            }
            if (m.group(3).split(",").length > 7) {
                wrong(i + 1, m.group(2) + " has more than seven parameters");
            }
            String end = lines.get(i).replaceAll("\\S.*", "") + "}";
            int length = 1;
            while (i + length < lines.size() && !lines.get(i + length).equals(end)) {
                length++;
            }
            if (length + 1 > 60) {
                wrong(i + 1, m.group(2) + " has " + (length + 1) + " lines");
            }
        }
    }

    private static void classes(List<String> lines) {
        int classes = 0;
        int fields = 0;
        for (int i = 0; i < lines.size(); i++) {
            if (CLASS.matcher(lines.get(i)).matches()) {
                classes++;
                fields = 0;
            } else if (FIELD.matcher(lines.get(i)).matches() && !lines.get(i).contains("return")) {
                fields++;
                if (fields > 20) {
                    wrong(i + 1, "more than twenty fields");
                }
            }
        }
        if (classes > 12) {
            wrong(0, classes + " classes");
        }
    }
}
