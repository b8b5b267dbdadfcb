import java.lang.reflect.Constructor;
import java.lang.reflect.Field;
import java.lang.reflect.Method;
import java.lang.reflect.Modifier;
import java.nio.charset.StandardCharsets;
import java.nio.file.Files;
import java.nio.file.Path;
import java.util.Set;
import java.util.TreeSet;
import java.util.regex.Matcher;
import java.util.regex.Pattern;

/** LANGUAGE.md, as far as a look at the source and at the class can tell. */
public final class LanguageTest {
    private static final Set<String> FACE = Set.of(
        "int row(int, int)", "int lay(int, int, int)", "int at(int, int)", "int tear(int)",
        "int copy(int, int, int, int, int)", "int mean(int)", "int text(int, int)", "int put(int, int, int)",
        "int fault(int)", "int wall(int)", "int lamp(int, int)", "int mark(int, int)", "int press(int)",
        "int set(int, int)", "int crack(int)", "int undo(int)", "int keep(int)", "int on(int)",
        "int touched(int, int, int, int)", "int shows(int)", "int most()", "int fewest(int, int)", "int ways(int)",
        "int sure(int)", "int which(int)", "int kinds(int, int)", "int next(int, int)", "int sums(int)",
        "int duel(int, int)", "int odds(int, int, int)", "int mid(int, int)", "int lots(int, int)", "int asked()",
        "long upper()", "long lower()", "int count(int)", "int finding()", "int findings(int)", "long digest()");
    private static final Set<String> CONSTANTS = Set.of("BAD", "FULL", "FINDING", "STATE", "SPENT", "NONE");

    public static void main(String[] args) throws Exception {
        source(Files.readString(Path.of("src/main/java/TouchedLamps.java"), StandardCharsets.ISO_8859_1));
        face();
        classes();
        Due.end();
    }

    private static void source(String whole) {
        Due.due("signs beyond 127", whole.chars().filter(sign -> sign > 127).count(), 0);
        String code = whole.replaceAll("(?s)/\\*.*?\\*/", "").replaceAll("//[^\n]*", "");
        for (String word : new String[] {"throw", "throws", "try", "catch", "synchronized", "assert", "import",
            "package", "protected", "volatile", "transient", "native", "Object", "Exception", "Thread", "Random"}) {
            Due.due("the word " + word, many("(?<![\\w.])" + Pattern.quote(word) + "(?!\\w)", code), 0);
        }
        for (String sign : new String[] {"->", "::", "Exact(", "@", "\"", "static {", "System."}) {
            int want = sign.equals("System.") ? many("System\\.arraycopy\\(", code) : 0;
            Due.due("the sign " + sign, many(Pattern.quote(sign), code), want);
        }
        longMethods(code);
    }

    private static int many(String pattern, String code) {
        Matcher matcher = Pattern.compile(pattern).matcher(code);
        int many = 0;
        while (matcher.find()) {
            many++;
        }
        return many;
    }

    private static void longMethods(String code) {
        int begun = 0;
        String name = "";
        String[] lines = code.split("\n");
        for (int i = 0; i < lines.length; i++) {
            boolean head = lines[i].matches(" {4}( {4})?\\w.*\\) \\{");
            if (head) {
                begun = i;
                name = lines[i].trim();
            } else if (lines[i].matches(" {4}( {4})?\\}") && i - begun > 60) {
                Due.due("lines of " + name, i - begun, 60);
            }
        }
        Due.due("methods were found", name.isEmpty() ? 0 : 1, 1);
    }

    private static void face() {
        Set<String> open = new TreeSet<>();
        Set<String> names = new TreeSet<>();
        for (Method method : TouchedLamps.class.getDeclaredMethods()) {
            if (Modifier.isPublic(method.getModifiers())) {
                open.add(told(method));
                names.add(method.getName());
                Due.due("static " + method, method.getModifiers() & Modifier.STATIC, 0);
            }
        }
        Due.due("the face is the document's: " + open, open.equals(FACE) ? 1 : 0, 1);
        for (Method method : TouchedLamps.class.getDeclaredMethods()) {
            if (!Modifier.isPublic(method.getModifiers())) {
                Due.due("private " + method, method.getModifiers() & Modifier.PRIVATE, Modifier.PRIVATE);
                Due.due("a name of the face for " + method, names.contains(method.getName()) ? 1 : 0, 0);
            }
        }
        Set<String> constants = new TreeSet<>();
        for (Field field : TouchedLamps.class.getDeclaredFields()) {
            if (Modifier.isPublic(field.getModifiers())) {
                constants.add(field.getName());
            } else {
                Due.due("private " + field, field.getModifiers() & Modifier.PRIVATE, Modifier.PRIVATE);
            }
        }
        Due.due("the constants are the document's: " + constants, constants.equals(CONSTANTS) ? 1 : 0, 1);
        Constructor<?>[] constructors = TouchedLamps.class.getDeclaredConstructors();
        Due.due("constructors", constructors.length, 1);
        Due.due("its parameters", constructors[0].getParameterCount(), 0);
        Due.due("public final", TouchedLamps.class.getModifiers(), Modifier.PUBLIC | Modifier.FINAL);
    }

    private static String told(Method method) {
        StringBuilder told = new StringBuilder();
        told.append(method.getReturnType().getName()).append(' ').append(method.getName()).append('(');
        for (int i = 0; i < method.getParameterCount(); i++) {
            told.append(i == 0 ? "" : ", ").append(method.getParameterTypes()[i].getName());
        }
        return told.append(')').toString();
    }

    private static void classes() {
        Class<?>[] inside = TouchedLamps.class.getDeclaredClasses();
        Due.due("at most twelve classes: " + inside.length, inside.length < 12 ? 1 : 0, 1);
        oneClass(TouchedLamps.class);
        for (Class<?> one : inside) {
            Due.due("static " + one, one.getModifiers() & Modifier.STATIC, Modifier.STATIC);
            oneClass(one);
        }
    }

    private static void oneClass(Class<?> one) {
        int fields = 0;
        for (Field field : one.getDeclaredFields()) {
            boolean still = Modifier.isStatic(field.getModifiers());
            fields += still ? 0 : 1;
            Due.due("a static field is final: " + field, still && !Modifier.isFinal(field.getModifiers()) ? 1 : 0, 0);
        }
        Due.due("at most twenty fields in " + one + ": " + fields, fields <= 20 ? 1 : 0, 1);
        for (Method method : one.getDeclaredMethods()) {
            Due.due("at most seven parameters: " + method, method.getParameterCount() <= 7 ? 1 : 0, 1);
        }
    }
}
