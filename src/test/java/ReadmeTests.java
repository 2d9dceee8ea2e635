import java.io.IOException;
import java.lang.reflect.InvocationTargetException;
import java.lang.reflect.Method;
import java.nio.charset.StandardCharsets;
import java.nio.file.Files;
import java.nio.file.Path;
import java.util.ArrayList;
import java.util.List;
import java.util.Map;
import java.util.Set;
import java.util.TreeMap;
import java.util.TreeSet;
import java.util.regex.Matcher;
import java.util.regex.Pattern;

/**
 * Makes the calls that README.md shows, one behind another, and holds each answer against the one behind the call.
 * A line of its Java that is none of these fails, but for functions, which must stand in Due.java as they are.
 */
public final class ReadmeTests {
    private static final Path README = Path.of("README.md");
    private static final Path FUNCTIONS = Path.of("src/test/java/Due.java");
    private static final Pattern CALL =
            Pattern.compile("crane\\.(\\w+)\\(([^()]*)\\); *// (throws \\w+|-?\\d+|true|false)(: .*)?");
    private static final Pattern SAID = Pattern.compile(": \"(.*)\"");
    private static final String ANEW = "SwingCrane crane = new SwingCrane();";
    /** What README.md must show at least. */
    private static final Set<String> SHOWN = Set.of("feed", "text", "fault", "fewest", "step", "now");
    private static final Set<String> ANSWERS = Set.of("-1", "-2", "-3", "-99", "-100", "true", "false",
            "throws IndexOutOfBoundsException", "throws NoSuchElementException");

    private static int wrong;
    private static int calls;
    private static SwingCrane crane;
    private static final Map<String, Integer> NAMES = new TreeMap<>();
    private static final Set<String> SEEN = new TreeSet<>();

    private ReadmeTests() {
    }

    private static void wrong(String what) {
        wrong++;
        System.out.println("README.md: " + what);
    }

    public static void main(String[] args) throws IOException {
        for (List<String> block : blocks(Files.readAllLines(README))) {
            if (block.get(0).startsWith("static ")) {
                functions(block);
            } else {
                block.forEach(ReadmeTests::line);
            }
        }
        for (String name : SHOWN) {
            if (!NAMES.containsKey(name)) {
                wrong("no call of " + name);
            }
        }
        for (String answer : ANSWERS) {
            if (!SEEN.contains(answer)) {
                wrong("no answer " + answer);
            }
        }
        System.out.println(calls + " calls of README.md, " + wrong + " not as it says");
        if (wrong > 0) {
            System.exit(1);
        }
    }

    private static List<List<String>> blocks(List<String> lines) {
        List<List<String>> blocks = new ArrayList<>();
        boolean java = false;
        for (String line : lines) {
            if (line.equals("```java")) {
                java = true;
                blocks.add(new ArrayList<>());
            } else if (line.startsWith("```")) {
                java = false;
            } else if (java) {
                blocks.get(blocks.size() - 1).add(line);
            }
        }
        return blocks;
    }

    private static void functions(List<String> block) throws IOException {
        String had = Files.readString(FUNCTIONS).replaceAll("\\s+", " ");
        for (String function : String.join("\n", block).split("\n\n")) {
            if (!had.contains(function.replaceAll("\\s+", " ").trim())) {
                wrong("Due.java has another function than " + function);
            }
        }
    }

    private static void line(String line) {
        Matcher m = CALL.matcher(line);
        if (line.equals(ANEW)) {
            crane = new SwingCrane();
        } else if (crane == null || !m.matches()) {
            wrong("no call with an answer: " + line);
        } else {
            calls++;
            NAMES.merge(m.group(1), 1, Integer::sum);
            SEEN.add(m.group(3));
            String got = answer(m.group(1), numbers(m.group(2)));
            if (!got.equals(m.group(3))) {
                wrong(line + " answered " + got);
            }
            if (m.group(1).equals("feed")) {
                bytes(line, numbers(m.group(2)), m.group(4));
            }
        }
    }

    private static int[] numbers(String arguments) {
        if (arguments.isBlank()) {
            return new int[0];
        }
        String[] words = arguments.split(", *");
        int[] numbers = new int[words.length];
        for (int i = 0; i < words.length; i++) {
            numbers[i] = (int) (long) Long.decode(words[i]);
        }
        return numbers;
    }

    private static String answer(String name, int[] numbers) {
        for (Method method : SwingCrane.class.getMethods()) {
            if (method.getName().equals(name) && method.getParameterCount() == numbers.length) {
                Object[] arguments = new Object[numbers.length];
                for (int i = 0; i < numbers.length; i++) {
                    arguments[i] = numbers[i];
                }
                try {
                    return String.valueOf(method.invoke(crane, arguments));
                } catch (InvocationTargetException e) {
                    return "throws " + e.getCause().getClass().getSimpleName();
                } catch (IllegalAccessException e) {
                    return "can't be called";
                }
            }
        }
        return "no such call";
    }

    /** The bytes that a feed tells in words are those of its numbers. */
    private static void bytes(String line, int[] numbers, String remark) {
        byte[] fed = new byte[4 * numbers.length];
        for (int i = 0; i < fed.length; i++) {
            fed[i] = (byte) (numbers[i / 4] >> 24 - 8 * (i % 4));
        }
        Matcher said = SAID.matcher(remark == null ? "" : remark);
        String text = new String(fed, StandardCharsets.ISO_8859_1);
        if (!said.matches() || !said.group(1).equals(text)) {
            wrong(line + " feeds \"" + text + "\"");
        }
    }
}
