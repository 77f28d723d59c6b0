import java.io.IOException;
import java.lang.reflect.Field;
import java.lang.reflect.Method;
import java.lang.reflect.Modifier;
import java.nio.file.Files;
import java.nio.file.Path;
import java.util.ArrayList;
import java.util.HashSet;
import java.util.List;
import java.util.Set;
import java.util.regex.Matcher;
import java.util.regex.Pattern;

/** What of ../shared/LANGUAGE.md a look at the program's text and classes can tell, by the rules' numbers. */
public final class FormTest {
    private static final Path PROGRAM = Path.of("src/main/java/EightParts.java");
    private static final int MOST_LINES = 60;
    private static final int MOST_CLASSES = 12;
    private static final int MOST_FIELDS = 20;
    private static final int MOST_PARAMETERS = 7;
    private static final Set<Class<?>> CONSTANTS = Set.of(int.class, long.class, boolean.class, char.class,
        String.class, int[].class, long[].class, char[].class, byte[].class);
    private static final Due DUE = new Due();

    public static void main(String[] args) throws IOException {
        String text = Files.readString(PROGRAM);
        List<Class<?>> classes = new ArrayList<>(List.of(EightParts.class));
        classes.addAll(List.of(EightParts.class.getDeclaredClasses()));
        DUE.is("rule 4: signs beyond 127", text.chars().filter(sign -> sign < 1 || sign > 127).count(), 0);
        DUE.is("rule 11: many classes, at most twelve", classes.size() <= MOST_CLASSES, true);
        words(bare(text));
        lengths(text);
        for (Class<?> each : classes) {
            theClass(each);
            fields(each);
            methods(each);
        }
        DUE.end();
    }

    /** The text without what stands in comments, in strings and between single quotes. */
    private static String bare(String text) {
        return text.replaceAll("(?s)/\\*.*?\\*/", " ").replaceAll("'\\\\?.'", "' '")
            .replaceAll("\"(\\\\.|[^\"\\\\])*\"", "\"\"").replaceAll("//[^\n]*", " ");
    }

    private static void words(String text) {
        none("rule 1: a package", text, "\\bpackage\\b");
        none("rule 1: neither public nor private", text, "\\bprotected\\b");
        none("rule 2: a lambda or a method reference", text, "->|::");
        none("rule 4: another import", text, "\\bimport (?!java\\.util\\.(Arrays|ArrayList|List|Iterator);)");
        none("rule 4: another call of Arrays", text, "\\bArrays\\.(?!copyOf\\b|copyOfRange\\b|fill\\b)");
        none("rule 4: another call of System", text, "\\bSystem\\.(?!arraycopy\\b)");
        none("rule 4: a call whose name ends in Exact", text, "\\w+Exact\\b");
        none("rule 4: a name of java or javax", text, "(?<!import )\\bjavax?\\.");
        none("rule 5: a static block", text, "\\bstatic\\s*\\{");
        none("rule 6: exceptions", text, "\\b(throws?|try|catch|finally|assert|synchronized)\\b");
        none("rule 6: a class asked for itself", text, "\\.(equals|hashCode|toString|getClass)\\b");
        none("rule 9: an end that can't be seen", text, "while \\(true\\)|for \\([^;]*;\\s*;");
        none("rule 13: the world outside", text, "\\b(Thread|Random|Runtime|Process|File)\\b");
    }

    private static void none(String what, String text, String pattern) {
        Matcher found = Pattern.compile(pattern).matcher(text);
        while (found.find()) {
            long line = 1 + text.substring(0, found.start()).chars().filter(sign -> sign == '\n').count();
            DUE.is(what + ": " + found.group() + " near line " + line, true, false);
        }
    }

    /** A method begins and ends at the same column: that of the class's members, or of an inner class's. */
    private static void lengths(String text) {
        String[] lines = text.split("\n");
        for (String margin : List.of("    ", "        ")) {
            Pattern begin = Pattern.compile(margin + "[a-zA-Z][^=;]*\\) \\{");
            int begun = -1;
            for (int k = 0; k < lines.length; k++) {
                if (begin.matcher(lines[k]).matches()) {
                    begun = k;
                } else if (begun >= 0 && lines[k].equals(margin + "}")) {
                    DUE.is("rule 11: sixty lines at most, of " + lines[begun].trim(), k - begun < MOST_LINES, true);
                    begun = -1;
                }
            }
        }
    }

    private static void theClass(Class<?> each) {
        String name = each.getSimpleName();
        DUE.is("rule 2: static, " + name, each == EightParts.class || Modifier.isStatic(each.getModifiers()), true);
        DUE.is("rule 1: not open, " + name, each == EightParts.class || !Modifier.isPublic(each.getModifiers()), true);
        DUE.is("rule 2: classes in " + name, each == EightParts.class || each.getDeclaredClasses().length == 0, true);
    }

    private static void fields(Class<?> each) {
        int many = 0;
        for (Field field : each.getDeclaredFields()) {
            if (Modifier.isStatic(field.getModifiers())) {
                DUE.is("rule 5: final, " + field, Modifier.isFinal(field.getModifiers()), true);
                DUE.is("rule 5: of a constant's type, " + field, CONSTANTS.contains(field.getType()), true);
            } else {
                many++;
            }
        }
        DUE.is("rule 11: twenty fields at most, of " + each.getSimpleName(), many <= MOST_FIELDS, true);
    }

    private static void methods(Class<?> each) {
        Set<String> open = new HashSet<>();
        for (Method method : EightParts.class.getMethods()) {
            open.add(method.getName());
        }
        for (Method method : each.getDeclaredMethods()) {
            DUE.is("rule 11: seven parameters at most, of " + method,
                method.getParameterCount() <= MOST_PARAMETERS, true);
            DUE.is("rule 1: a private method with a public one's name, " + method,
                Modifier.isPrivate(method.getModifiers()) && open.contains(method.getName()), false);
        }
    }
}
