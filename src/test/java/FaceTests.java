import java.io.IOException;
import java.lang.reflect.Constructor;
import java.lang.reflect.Field;
import java.lang.reflect.Member;
import java.lang.reflect.Method;
import java.lang.reflect.Modifier;
import java.nio.file.Files;
import java.nio.file.Path;
import java.util.Arrays;
import java.util.Set;
import java.util.TreeSet;
import java.util.regex.Matcher;
import java.util.regex.Pattern;
import java.util.stream.Collectors;

/** The face of the class is the one that ../shared/DOC.md prints, every member of it, and nothing beside it. */
public final class FaceTests {
    private static final Path DOC = Path.of("../shared/DOC.md");
    private static final Pattern MEMBER = Pattern.compile("    (public .*);");
    private static final Pattern PARAMETERS = Pattern.compile("\\((.*)\\)");
    private static final int MEMBERS = 48;

    private static int wrong;

    private FaceTests() {
    }

    private static void wrong(String what) {
        wrong++;
        System.out.println("the face: " + what);
    }

    public static void main(String[] args) throws Exception {
        Set<String> printed = printed();
        Set<String> had = had();
        if (printed.size() != MEMBERS) {
            wrong("DOC.md prints " + printed.size() + " members, not " + MEMBERS);
        }
        for (String member : printed) {
            if (!had.contains(member)) {
                wrong("lacks " + member);
            }
        }
        for (String member : had) {
            if (!printed.contains(member)) {
                wrong("has " + member);
            }
        }
        theClassItself();
        System.out.println(had.size() + " members of the face, " + wrong + " not as the document prints them");
        if (wrong > 0) {
            System.exit(1);
        }
    }

    /** The lines of the document's face, parameters by their types alone. */
    private static Set<String> printed() throws IOException {
        Set<String> members = new TreeSet<>();
        boolean face = false;
        for (String line : Files.readAllLines(DOC)) {
            if (line.startsWith("## ")) {
                face = line.equals("## The public face");
            }
            Matcher m = MEMBER.matcher(line);
            if (face && m.matches()) {
                members.add(withoutNames(m.group(1)));
            }
        }
        return members;
    }

    private static String withoutNames(String member) {
        Matcher m = PARAMETERS.matcher(member);
        if (!m.find()) {
            return member;
        }
        String types = Arrays.stream(m.group(1).split(", ")).map(one -> one.split(" ")[0])
                .collect(Collectors.joining(", "));
        return member.substring(0, m.start()) + "(" + types + ")" + member.substring(m.end());
    }

    /** Everything that is not private. */
    private static Set<String> had() throws IllegalAccessException {
        Set<String> members = new TreeSet<>();
        for (Field field : SwingCrane.class.getDeclaredFields()) {
            if (isSeen(field)) {
                Object value = Modifier.isStatic(field.getModifiers()) ? field.get(null) : "another one of each object";
                members.add(Modifier.toString(field.getModifiers()) + " " + field.getType().getSimpleName() + " "
                        + field.getName() + " = " + value);
            }
        }
        for (Constructor<?> constructor : SwingCrane.class.getDeclaredConstructors()) {
            if (isSeen(constructor)) {
                members.add(Modifier.toString(constructor.getModifiers()) + " SwingCrane"
                        + types(constructor.getParameterTypes()) + thrown(constructor.getExceptionTypes()));
            }
        }
        for (Method method : SwingCrane.class.getDeclaredMethods()) {
            if (isSeen(method)) {
                members.add(Modifier.toString(method.getModifiers()) + " " + method.getReturnType().getSimpleName()
                        + " " + method.getName() + types(method.getParameterTypes())
                        + thrown(method.getExceptionTypes()));
            }
        }
        return members;
    }

    private static boolean isSeen(Member member) {
        return !Modifier.isPrivate(member.getModifiers());
    }

    private static String types(Class<?>[] types) {
        return "(" + Arrays.stream(types).map(Class::getSimpleName).collect(Collectors.joining(", ")) + ")";
    }

    private static String thrown(Class<?>[] types) {
        return types.length == 0 ? "" : " throws "
                + Arrays.stream(types).map(Class::getSimpleName).collect(Collectors.joining(", "));
    }

    private static void theClassItself() {
        if (SwingCrane.class.getModifiers() != (Modifier.PUBLIC | Modifier.FINAL)) {
            wrong("is not public and final alone");
        }
        if (!SwingCrane.class.getPackageName().isEmpty()) {
            wrong("has a package");
        }
        if (SwingCrane.class.getSuperclass() != Object.class || SwingCrane.class.getInterfaces().length > 0) {
            wrong("is something else, too");
        }
        for (Class<?> inside : SwingCrane.class.getDeclaredClasses()) {
            int modifiers = inside.getModifiers();
            if (Modifier.isPublic(modifiers) || Modifier.isProtected(modifiers) || !Modifier.isStatic(modifiers)) {
                wrong(inside.getSimpleName() + " is not private or package-visible, and static");
            }
        }
    }
}
