import java.io.IOException;
import java.lang.reflect.Field;
import java.lang.reflect.Method;
import java.lang.reflect.Modifier;
import java.nio.file.Files;
import java.nio.file.Path;
import java.util.ArrayList;
import java.util.List;
import java.util.Set;
import java.util.regex.Matcher;
import java.util.regex.Pattern;

/** The rules of ../shared/LANGUAGE.md, by their numbers, as far as the class's text and members show them. */
public final class LanguageTest {
    private static final Path SOURCE = Path.of("src/main/java/ActionDigests.java");
    private static final Set<Class<?>> CONSTANTS = Set.of(
        int.class, long.class, boolean.class, char.class, String.class, int[].class, long[].class, char[].class, byte[].class);

    // Some of these the rules allow in places; the class needs none of them.
    private static final String[][] FORBIDDEN = {
        {"2", "->"}, {"2", "::"}, {"4", "Exact\\b"}, {"4", "\\bimport\\b"}, {"5", "\\bstatic \\{"},
        {"6", "\\bfinally\\b"}, {"6", "\\bsynchronized\\b"}, {"6", "\\bassert\\b"}, {"6", "\\bcatch\\b"}, {"6", "\\btry\\b"},
        {"6", "\\bextends\\b"}, {"6", "\\bhashCode\\b"}, {"6", "\\btoString\\b"}, {"13", "\\bSystem\\b"}, {"13", "\\bThread\\b"},
        {"13", "\\bjava\\."}, {"the file", "\\bpackage\\b"}
    };
    private static final Pattern THROW = Pattern.compile("\\bthrow\\b[^;]*;");
    private static final String WRITTEN = "throw new Illegal(Argument|State)Exception\\(\"\"\\);";
    // Blocks inside a method look alike and are counted too: they are shorter than their method.
    private static final Pattern HEAD = Pattern.compile("^( {4}| {8})[^ ].*\\(.*\\{$");

    private final Check check = new Check();
    private final String code;

    private LanguageTest() throws IOException {
        code = withoutComments(Files.readString(SOURCE));
    }

    /** What is written in quotes and in comments is no code; the lines stay as they are. */
    private static String withoutComments(String source) {
        Matcher block = Pattern.compile("/\\*.*?\\*/", Pattern.DOTALL).matcher(source);
        String left = block.replaceAll(found -> "\n".repeat((int) found.group().chars().filter(c -> c == '\n').count()));
        return left.replaceAll("\"[^\"\\n]*\"", "\"\"").replaceAll("//.*", "");
    }

    private void words() {
        for (String[] rule : FORBIDDEN) {
            Matcher found = Pattern.compile(rule[1]).matcher(code);
            check.due("rule " + rule[0] + ": " + rule[1], found.find(), false);
        }
        Matcher thrown = THROW.matcher(code);
        while (thrown.find()) {
            check.due("rule 6: " + thrown.group(), thrown.group().matches(WRITTEN), true);
        }
    }

    private void methodLengths() {
        String[] lines = code.split("\n", -1);
        int methods = 0;
        for (int start = 0; start < lines.length; start++) {
            if (HEAD.matcher(lines[start]).matches()) {
                String indent = lines[start].startsWith("        ") ? "        " : "    ";
                int end = start;
                while (end < lines.length && !lines[end].equals(indent + "}")) {
                    end++;
                }
                methods++;
                check.due("rule 11: more than 60 lines: " + lines[start].trim(), end - start >= 60, false);
            }
        }
        check.due("rule 11: methods were found", methods > 15, true);
    }

    private static List<Class<?>> all() {
        List<Class<?>> classes = new ArrayList<>();
        classes.add(ActionDigests.class);
        for (int i = 0; i < classes.size(); i++) {
            classes.addAll(List.of(classes.get(i).getDeclaredClasses()));
        }
        return classes;
    }

    private void members() {
        check.due("rule 11: more than twelve classes", all().size() > 12, false);
        for (Class<?> one : all()) {
            int fields = 0;
            for (Field field : one.getDeclaredFields()) {
                if (!Modifier.isStatic(field.getModifiers())) {
                    fields++;
                } else {
                    check.due("rule 5: final: " + field, Modifier.isFinal(field.getModifiers()), true);
                    check.due("rule 5: a constant: " + field, CONSTANTS.contains(field.getType()), true);
                }
            }
            check.due("rule 11: more than twenty fields: " + one, fields > 20, false);
            for (Method method : one.getDeclaredMethods()) {
                check.due("rule 11: more than seven parameters: " + method, method.getParameterCount() > 7, false);
            }
        }
    }

    public static void main(String[] args) throws IOException {
        LanguageTest test = new LanguageTest();
        test.words();
        test.methodLengths();
        test.members();
        test.check.end();
    }
}
