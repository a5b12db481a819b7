import java.io.IOException;
import java.lang.reflect.Executable;
import java.lang.reflect.Field;
import java.lang.reflect.Method;
import java.lang.reflect.Modifier;
import java.nio.file.Files;
import java.nio.file.Path;
import java.util.ArrayList;
import java.util.Arrays;
import java.util.HashSet;
import java.util.List;
import java.util.Set;
import java.util.regex.Matcher;
import java.util.regex.Pattern;

/**
 * Those rules of ../shared/LANGUAGE.md that can be looked up in the class and in its text. It is
 * run from the project's directory.
 */
public final class LanguageTest {
    private static final Path SOURCE = Path.of("src/main/java/YardActors.java");
    private static final Set<Class<?>> CONSTANTS = Set.of(int.class, long.class, boolean.class,
            char.class, String.class, int[].class, long[].class, char[].class, byte[].class);
    // The document asks for no exception, so the class has no need of one either.
    private static final String[] WORDS_RULED_OUT = {
        "package", "import", "throw", "throws", "try", "catch", "finally", "synchronized",
        "assert", "volatile", "native", "Object", "var"};
    private static final String[] MARKS_RULED_OUT = {"->", "::", "@", "static {", "[][]", "\t"};
    private static int wrong = 0;

    public static void main(String[] args) throws IOException {
        List<Class<?>> classes = new ArrayList<>();
        classes.add(YardActors.class);
        classes.addAll(Arrays.asList(YardActors.class.getDeclaredClasses()));
        check(classes.size() <= 12, "rule 11: too many classes");
        for (Class<?> type : classes) {
            rule1Names(type);
            rule2Nested(type);
            rules3And5Fields(type, classes);
            rule11Sizes(type);
        }
        rules4And6Text(withoutComments(Files.readString(SOURCE)));
        rule11Lengths(Files.readAllLines(SOURCE));
        System.out.println(wrong == 0 ? "the language is as due" : wrong + " faults");
        if (wrong != 0) {
            System.exit(1);
        }
    }

    // "No private method bears the name of a public one."
    private static void rule1Names(Class<?> type) {
        Set<String> open = new HashSet<>();
        for (Method method : YardActors.class.getMethods()) {
            open.add(method.getName());
        }
        for (Method method : type.getDeclaredMethods()) {
            check(Modifier.isPublic(method.getModifiers()) || !open.contains(method.getName()),
                    "rule 1: the name of a public method: " + method);
        }
    }

    private static void rule2Nested(Class<?> type) {
        int modifiers = type.getModifiers();
        if (type != YardActors.class) {
            check(Modifier.isStatic(modifiers), "rule 1: not static: " + type);
            check(!Modifier.isPublic(modifiers) && !Modifier.isProtected(modifiers),
                    "rule 1: open to others: " + type);
            check(type.getDeclaredClasses().length == 0, "rule 2: classes inside " + type);
        }
    }

    private static void rules3And5Fields(Class<?> type, List<Class<?>> own) {
        for (Field field : type.getDeclaredFields()) {
            int modifiers = field.getModifiers();
            if (Modifier.isStatic(modifiers)) {
                check(Modifier.isFinal(modifiers) && CONSTANTS.contains(field.getType()),
                        "rule 5: no constant: " + field);
            } else {
                Class<?> part = field.getType().isArray()
                        ? field.getType().getComponentType() : field.getType();
                check(part.isPrimitive() || own.contains(part), "rule 3: no such type: " + field);
            }
        }
    }

    private static void rule11Sizes(Class<?> type) {
        long fields = Arrays.stream(type.getDeclaredFields())
                .filter(field -> !Modifier.isStatic(field.getModifiers())).count();
        check(fields <= 20, "rule 11: too many fields: " + type);
        List<Executable> all = new ArrayList<>(Arrays.asList(type.getDeclaredMethods()));
        all.addAll(Arrays.asList(type.getDeclaredConstructors()));
        for (Executable one : all) {
            check(one.getParameterCount() <= 7, "rule 11: too many parameters: " + one);
        }
    }

    // Rule 4, "only what stands here", and rule 6, exceptions.
    private static void rules4And6Text(String text) {
        for (String word : WORDS_RULED_OUT) {
            check(!Pattern.compile("\\b" + word + "\\b").matcher(text).find(), "text has " + word);
        }
        for (String mark : MARKS_RULED_OUT) {
            check(!text.contains(mark), "text has " + mark);
        }
        Set<String> due = Set.of("System.arraycopy", "Math.min", "Long.MIN_VALUE");
        Matcher library = Pattern.compile("\\b(System|Math|Integer|Long|Arrays|List|String)\\.\\w+")
                .matcher(text);
        while (library.find()) {
            check(due.contains(library.group()), "not among what is used here: " + library.group());
        }
    }

    // "Methods stay short (some sixty lines)": a brace ends what began at the same depth.
    private static void rule11Lengths(List<String> lines) {
        Pattern start = Pattern.compile("^( {4}| {8})\\S.*\\) \\{$");
        for (int first = 0; first < lines.size(); first++) {
            Matcher matcher = start.matcher(lines.get(first));
            if (matcher.matches()) {
                int last = lines.subList(first, lines.size()).indexOf(matcher.group(1) + "}");
                check(last >= 0 && last <= 60, "rule 11: too long: " + lines.get(first).trim());
            }
        }
    }

    private static String withoutComments(String text) {
        return text.replaceAll("(?s)/\\*.*?\\*/", "").replaceAll("//.*", "");
    }

    private static void check(boolean holds, String fault) {
        if (!holds) {
            wrong++;
            System.out.println(fault);
        }
    }
}
