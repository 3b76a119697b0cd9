import java.lang.reflect.Constructor;
import java.lang.reflect.Field;
import java.lang.reflect.Method;
import java.lang.reflect.Modifier;
import java.nio.charset.StandardCharsets;
import java.nio.file.Files;
import java.nio.file.Path;
import java.util.HashSet;
import java.util.Set;
import java.util.TreeSet;
import java.util.regex.Matcher;
import java.util.regex.Pattern;

/**
 * The face of the document, what README.md tells of it and, as far as it is easily seen, what
 * LANGUAGE.md rules out.
 */
public final class FaceTest {
    private static final String SOURCE = "src/main/java/CosetGauges.java";
    private static final Set<String> METHODS = Set.of("int letter(int)", "int blank()", "int fault()",
        "int sums()", "int code(int)", "int row(int)", "int syndrome(int)", "int leader(int)",
        "int coset(int,int)", "int leaders(int)", "int better(int,int)", "int send(int,int)",
        "int plain(int,int,int)", "int share(int,int,int)", "int shared(int,int,int,int,boolean)",
        "int run(int,int,int)", "int seed()", "int count(int)", "long digest()");
    private static final Set<String> CONSTANTS = Set.of("NONE", "OUTSIDE", "STATE", "FULL");
    private static final Set<String> RULED_OUT = Set.of("throw", "throws", "try", "catch", "synchronized",
        "assert", "import", "package", "protected", "volatile", "transient", "native", "System", "Thread",
        "Object", "Class", "Random", "equals", "hashCode", "toString");

    private static final Due due = new Due("FaceTest");

    private FaceTest() {
    }

    public static void main(String[] args) throws Exception {
        face();
        classesInside();
        words();
        String readme = Files.readString(Path.of("README.md"), StandardCharsets.UTF_8);
        toldByReadme(readme);
        exampleOfReadme(readme);
        due.end();
    }

    private static void face() {
        Class<?> type = CosetGauges.class;
        due.is("public and final", type.getModifiers(), Modifier.PUBLIC | Modifier.FINAL);
        Set<String> shown = new TreeSet<>();
        Set<String> names = new HashSet<>();
        for (Method method : type.getDeclaredMethods()) {
            if (!Modifier.isPrivate(method.getModifiers())) {
                due.is(method.getName() + " is public and no more", method.getModifiers(), Modifier.PUBLIC);
                shown.add(told(method));
                names.add(method.getName());
            }
        }
        due.holds("methods are " + shown, shown.equals(METHODS));
        for (Method method : type.getDeclaredMethods()) {
            due.holds("private " + method.getName() + " has a name of its own",
                !Modifier.isPrivate(method.getModifiers()) || !names.contains(method.getName()));
        }
        due.is("one constructor", type.getDeclaredConstructors().length, 1);
        for (Constructor<?> constructor : type.getDeclaredConstructors()) {
            due.is("it takes nothing", constructor.getParameterCount(), 0);
            due.is("it is public", constructor.getModifiers(), Modifier.PUBLIC);
        }
        constants(type);
    }

    private static String told(Method method) {
        StringBuilder text = new StringBuilder(method.getReturnType() + " " + method.getName() + "(");
        for (Class<?> parameter : method.getParameterTypes()) {
            text.append(text.charAt(text.length() - 1) == '(' ? "" : ",").append(parameter);
        }
        return text.append(')').toString();
    }

    private static void constants(Class<?> type) {
        Set<String> shown = new TreeSet<>();
        for (Field field : type.getDeclaredFields()) {
            int modifiers = field.getModifiers();
            if (!Modifier.isPrivate(modifiers)) {
                due.is(field.getName(), modifiers, Modifier.PUBLIC | Modifier.STATIC | Modifier.FINAL);
                shown.add(field.getType() + " " + field.getName());
            }
            due.holds(field.getName() + ": what is static is final",
                !Modifier.isStatic(modifiers) || Modifier.isFinal(modifiers));
        }
        due.is("constants " + shown, shown.size(), CONSTANTS.size());
        for (String constant : CONSTANTS) {
            due.holds(constant + " is an int", shown.contains("int " + constant));
        }
    }

    private static void classesInside() {
        Class<?>[] inside = CosetGauges.class.getDeclaredClasses();
        due.holds("at most twelve classes", inside.length <= 12);
        for (Class<?> type : inside) {
            int modifiers = type.getModifiers();
            due.holds(type + " is static", Modifier.isStatic(modifiers));
            due.holds(type + " is not shown", !Modifier.isPublic(modifiers) && !Modifier.isProtected(modifiers));
            due.holds(type + " has at most twenty fields", type.getDeclaredFields().length <= 20);
        }
    }

    private static void words() throws Exception {
        String source = Files.readString(Path.of(SOURCE), StandardCharsets.UTF_8);
        String code = source.replaceAll("(?s)/\\*.*?\\*/", " ").replaceAll("//[^\n]*", " ");
        Matcher word = Pattern.compile("[A-Za-z_]+").matcher(code);
        while (word.find()) {
            due.holds("without " + word.group(), !RULED_OUT.contains(word.group()));
        }
        due.holds("without ->", !code.contains("->"));
        due.holds("without ::", !code.contains("::"));
        due.holds("without /=", !code.contains("/="));
        due.holds("signs 1 to 127 alone", source.chars().allMatch(sign -> sign > 0 && sign < 128));
    }

    private static void toldByReadme(String readme) {
        Set<String> told = new TreeSet<>();
        Matcher row = Pattern.compile("\\| `(int|long) (\\w+\\([^)]*\\))` \\|").matcher(readme);
        while (row.find()) {
            told.add(row.group(1) + " " + row.group(2).replaceAll(" \\w+(?=[,)])", "").replace(", ", ","));
        }
        due.holds("README.md tells " + told, told.equals(METHODS));
        due.holds("README.md tells the constructor", readme.contains("| `CosetGauges()` |"));
        for (String constant : CONSTANTS) {
            due.holds("README.md tells " + constant, readme.contains("| `" + constant + "` | -100"));
        }
    }

    private static void exampleOfReadme(String readme) {
        CosetGauges gauges = new CosetGauges();
        Given.write(gauges, "1010101/0110011/0001111");
        example(readme, "gauges.sums();", gauges.sums());
        example(readme, "gauges.code(3);", gauges.code(3));
        example(readme, "gauges.leader(5);", gauges.leader(5));
        example(readme, "gauges.send(37, 36);", gauges.send(37, 36));
        example(readme, "gauges.plain(37, 38, 2);", gauges.plain(37, 38, 2));
        example(readme, "gauges.share(0, 15, 0);", gauges.share(0, 15, 0));
        example(readme, "gauges.shared(0, 15, 37, 36, false);", gauges.shared(0, 15, 37, 36, false));
        example(readme, "gauges.run(7, 20, 2);", gauges.run(7, 20, 2));
        example(readme, "gauges.count(1);", gauges.count(1));
    }

    private static void example(String readme, String call, int answer) {
        Pattern line = Pattern.compile(Pattern.quote(call) + " *// " + answer + "\\b");
        due.holds("README.md: " + call + " answers " + answer, line.matcher(readme).find());
    }
}
