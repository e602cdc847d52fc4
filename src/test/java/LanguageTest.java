import java.io.IOException;
import java.lang.reflect.Field;
import java.lang.reflect.Method;
import java.lang.reflect.Modifier;
import java.nio.file.Files;
import java.nio.file.Path;
import java.util.ArrayList;
import java.util.Arrays;
import java.util.HashSet;
import java.util.List;
import java.util.Set;
import java.util.regex.Matcher;
import java.util.regex.Pattern;
import java.util.stream.Collectors;
import java.util.stream.Stream;

/**
 * The class keeps to the rules of LANGUAGE.md, as far as its text and its members show it. Some of
 * what is ruled out here the rules would allow under conditions; the class has no need of it.
 */
public final class LanguageTest {
    private static final Path SOURCES = Path.of("src/main/java");
    private static final Set<String> CONSTANTS = Set.of("int", "long", "boolean", "char",
            "java.lang.String", "[I", "[J", "[C", "[B");
    private static final String[] RULED_OUT = {
        "->", "::", "\\bpackage\\b", "\\bimport static\\b", "\\bsynchronized\\b", "\\bassert\\b",
        "\\btry\\b", "\\bcatch\\b", "\\bfinally\\b", "\\bgetMessage\\b", "\\w+Exact\\b", "\\bhashCode\\b",
        "\\btoString\\b", "\\bequals\\b", "\\bThread\\b", "\\bRandom\\b", "\\bFile\\b", "\\bnative\\b",
        "\\bdouble\\b", "\\bfloat\\b", "\\bMath\\.(?!max\\b|min\\b)", "\\bSystem\\.(?!arraycopy\\b)",
        "\\bArrays\\.(?!fill\\b|copyOf\\b|copyOfRange\\b)", "\\bjava\\.(?!util\\.Arrays;)",
        "\\bstatic \\{", "\\bwhile \\(true\\)", "for \\(;",
    };
    private static final int MOST_PARAMETERS = 7;
    private static final int MOST_LINES = 60;
    private static final int MOST_CLASSES = 12;
    private static final int MOST_FIELDS = 20;

    private final Due due = new Due();

    public static void main(String[] args) throws IOException {
        LanguageTest test = new LanguageTest();
        test.oneFile();
        test.text(Files.readString(SOURCES.resolve("ClockTree.java")));
        test.members();
        test.due.end();
    }

    private void oneFile() throws IOException {
        try (Stream<Path> all = Files.walk(SOURCES)) {
            List<String> files = all.filter(Files::isRegularFile).map(Path::toString)
                    .collect(Collectors.toList());
            if (!files.equals(List.of(SOURCES.resolve("ClockTree.java").toString()))) {
                due.say("one file is due, there are " + files);
            }
        }
    }

    private void text(String text) {
        String code = text.replaceAll("(?s)/\\*.*?\\*/", "").replaceAll("//[^\n]*", "")
                .replaceAll("\"[^\"\n]*\"", "TEXT");
        for (String ruledOut : RULED_OUT) {
            Matcher found = Pattern.compile(ruledOut).matcher(code);
            if (found.find()) {
                due.say("the text has " + found.group());
            }
        }
        Matcher thrown = Pattern.compile("throw\\b(?! new Illegal(Argument|State)Exception\\(TEXT\\);)")
                .matcher(code);
        due.is("another throw", thrown.find(), false);
        methodLengths(text.split("\n"));
    }

    /** A method begins with a line that ends in an opening brace and ends as far to the left. */
    private void methodLengths(String[] lines) {
        Pattern head = Pattern.compile("( {4}| {8})[\\w<].*\\)( \\{)?");
        for (int i = 0; i < lines.length; i++) {
            Matcher matcher = head.matcher(lines[i]);
            if (matcher.matches()) {
                int end = i;
                while (end < lines.length - 1 && !lines[end].equals(matcher.group(1) + "}")) {
                    end++;
                }
                if (end - i + 1 > MOST_LINES) {
                    due.say("long: " + lines[i].trim());
                }
            }
        }
    }

    private void members() {
        List<Class<?>> classes = new ArrayList<>(Arrays.asList(ClockTree.class.getDeclaredClasses()));
        for (Class<?> inside : classes) {
            int modifiers = inside.getModifiers();
            due.is(inside.getName() + " is static", Modifier.isStatic(modifiers), true);
            due.is(inside.getName() + " is seen outside",
                    Modifier.isPublic(modifiers) || Modifier.isProtected(modifiers), false);
            due.is(inside.getName() + " has classes", inside.getDeclaredClasses().length, 0);
        }
        classes.add(ClockTree.class);
        due.is("too many classes", classes.size() > MOST_CLASSES, false);
        for (Class<?> one : classes) {
            fields(one);
            methods(one);
        }
    }

    private void fields(Class<?> one) {
        int own = 0;
        for (Field field : one.getDeclaredFields()) {
            String name = one.getSimpleName() + "." + field.getName();
            if (Modifier.isStatic(field.getModifiers())) {
                due.is(name + " is final", Modifier.isFinal(field.getModifiers()), true);
                due.is(name + " is a constant", CONSTANTS.contains(field.getType().getName()), true);
            } else {
                own++;
            }
        }
        due.is(one.getSimpleName() + " has too many fields", own > MOST_FIELDS, false);
    }

    private void methods(Class<?> one) {
        Set<String> face = new HashSet<>();
        for (Method method : ClockTree.class.getMethods()) {
            face.add(method.getName());
        }
        for (Method method : one.getDeclaredMethods()) {
            String name = one.getSimpleName() + "." + method.getName();
            due.is(name + " has too many parameters",
                    method.getParameterCount() > MOST_PARAMETERS, false);
            boolean ofFace = one == ClockTree.class && Modifier.isPublic(method.getModifiers());
            due.is(name + " bears a name of the face",
                    !ofFace && face.contains(method.getName()), false);
        }
    }
}
