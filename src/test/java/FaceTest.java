import java.io.IOException;
import java.lang.reflect.Field;
import java.lang.reflect.Member;
import java.lang.reflect.Method;
import java.lang.reflect.Modifier;
import java.nio.file.Files;
import java.nio.file.Path;
import java.util.Set;
import java.util.TreeSet;
import java.util.regex.Matcher;
import java.util.regex.Pattern;

/** The public face: the members that the document names, and no others; read from the document itself. */
public final class FaceTest {
    private static final Path DOCUMENT = Path.of("../shared/DOC.md");
    private static final Pattern FACE = Pattern.compile("## The public face\\s+```java\\s(.*?)```", Pattern.DOTALL);
    private static final Pattern METHOD = Pattern.compile("public (\\w+) (\\w+)\\(([^)]*)\\);");
    private static final Due DUE = new Due();

    public static void main(String[] args) throws IOException, IllegalAccessException {
        Set<String> asked = askedMethods();
        DUE.is("how many methods the document names", asked.size(), 55);
        Set<String> there = openMethods();
        for (String method : asked) {
            DUE.is("that there is " + method, there.contains(method), true);
        }
        for (String method : there) {
            DUE.is("that the document names " + method, asked.contains(method), true);
        }
        theClass();
        theConstant();
        DUE.end();
    }

    private static Set<String> askedMethods() throws IOException {
        Matcher face = FACE.matcher(Files.readString(DOCUMENT));
        Set<String> to = new TreeSet<>();
        if (!face.find()) {
            return to;
        }
        Matcher method = METHOD.matcher(face.group(1));
        while (method.find()) {
            String types = method.group(3).replaceAll("(\\w+) \\w+", "$1");
            to.add(method.group(1) + " " + method.group(2) + "(" + types + ")");
        }
        return to;
    }

    private static Set<String> openMethods() {
        Set<String> to = new TreeSet<>();
        for (Method method : EightParts.class.getDeclaredMethods()) {
            if (!isHidden(method)) {
                StringBuilder types = new StringBuilder();
                for (Class<?> type : method.getParameterTypes()) {
                    types.append(types.length() == 0 ? "" : ", ").append(type.getSimpleName());
                }
                to.add(method.getReturnType().getSimpleName() + " " + method.getName() + "(" + types + ")");
                DUE.is("that only its object is needed for " + method, method.getModifiers(), Modifier.PUBLIC);
            }
        }
        return to;
    }

    private static boolean isHidden(Member member) {
        return Modifier.isPrivate(member.getModifiers()) || member.isSynthetic();
    }

    private static void theClass() {
        DUE.is("public and final", EightParts.class.getModifiers(), Modifier.PUBLIC | Modifier.FINAL);
        DUE.is("without a package", EightParts.class.getPackageName().isEmpty(), true);
        DUE.is("of no other class", EightParts.class.getSuperclass() == Object.class, true);
        DUE.is("of how many interfaces", EightParts.class.getInterfaces().length, 0);
        DUE.is("how many constructors", EightParts.class.getDeclaredConstructors().length, 1);
        DUE.is("how many public ones", EightParts.class.getConstructors().length, 1);
        DUE.is("of how many arguments", EightParts.class.getConstructors()[0].getParameterCount(), 0);
    }

    private static void theConstant() throws IllegalAccessException {
        int open = 0;
        for (Field field : EightParts.class.getDeclaredFields()) {
            if (!isHidden(field)) {
                open++;
                boolean isConstant = field.getName().equals("NONE") && field.getType() == int.class
                    && field.getModifiers() == (Modifier.PUBLIC | Modifier.STATIC | Modifier.FINAL);
                DUE.is("that the document names " + field, isConstant, true);
                DUE.is("NONE", isConstant ? field.getInt(null) : 0, -1);
            }
        }
        DUE.is("how many open fields", open, 1);
    }
}
