import java.io.IOException;
import java.lang.reflect.Constructor;
import java.lang.reflect.Field;
import java.lang.reflect.Method;
import java.lang.reflect.Modifier;
import java.nio.file.Files;
import java.nio.file.Path;
import java.util.Arrays;
import java.util.HashSet;
import java.util.Set;
import java.util.TreeSet;
import java.util.regex.Pattern;

/** The document's public face, and those rules of LANGUAGE.md that can be looked up. */
public final class FaceTest {
    private static final Check CHECK = new Check("FaceTest");

    private static final String[] METHODS = {
        "int servant(int, int, int)", "int master(int, int)", "int bar(int, int, boolean)", "int hear(int, int, int)",
        "int pass(int, int, int)", "int about(int, int)", "int house(int, int)", "int holds(int, int)",
        "int offer(int, int)", "int next(int)", "int go(int)", "int bargains()", "int bargain(int, int)", "int torn()",
        "int pair(int)", "int foretold(int, int)", "int text(int)", "int days(int)", "int sick(int, int)",
        "int warn(int)", "int run(int)", "int send(int)", "int due(int, int)", "int owes(int, int)",
        "int hands(int, int)", "int total(int)",
    };

    private static final String[] CONSTANTS = {"UNKNOWN", "BAD", "STATE", "FULL", "NONE"};

    private static final String[] FORBIDDEN = {
        "\\bthrow\\b", "\\bthrows\\b", "\\btry\\b", "\\bcatch\\b", "\\bsynchronized\\b", "\\bassert\\b", "->", "::",
        "\\bSystem\\.(?!arraycopy)", "\\bimport (?!java\\.util\\.(Arrays|ArrayList|List);)", "\\bpackage\\b",
        "\\bprotected\\b", "\\w+Exact\\b", "@", "static \\{",
    };

    public static void main(String[] args) throws IOException {
        face();
        constants();
        nestedClasses();
        source();
        CHECK.end();
    }

    private static void face() {
        Class<?> type = HiringFairs.class;
        CHECK.holds("the class is public and final",
                Modifier.isPublic(type.getModifiers()) && Modifier.isFinal(type.getModifiers()));
        Set<String> methods = new TreeSet<>();
        Set<String> publicNames = new HashSet<>();
        for (Method method : type.getDeclaredMethods()) {
            if (!Modifier.isPrivate(method.getModifiers())) {
                methods.add(told(method));
                publicNames.add(method.getName());
                CHECK.holds(method + " is public", Modifier.isPublic(method.getModifiers()));
                CHECK.holds(method + " is no static one", !Modifier.isStatic(method.getModifiers()));
            }
        }
        CHECK.holds("the methods are the document's: " + methods, methods.equals(new TreeSet<>(Arrays.asList(METHODS))));
        for (Method method : type.getDeclaredMethods()) {
            CHECK.holds(method + " bears no public one's name",
                    !Modifier.isPrivate(method.getModifiers()) || !publicNames.contains(method.getName()));
        }
        Constructor<?>[] constructors = type.getDeclaredConstructors();
        CHECK.due("constructors", constructors.length, 1);
        CHECK.due("its parameters", constructors[0].getParameterCount(), 0);
        CHECK.holds("it is public", Modifier.isPublic(constructors[0].getModifiers()));
    }

    private static String told(Method method) {
        StringBuilder told = new StringBuilder();
        told.append(method.getReturnType().getName()).append(' ').append(method.getName()).append('(');
        for (Class<?> parameter : method.getParameterTypes()) {
            told.append(told.charAt(told.length() - 1) == '(' ? "" : ", ").append(parameter.getName());
        }
        return told.append(')').toString();
    }

    private static void constants() {
        CHECK.due("UNKNOWN", HiringFairs.UNKNOWN, -1);
        CHECK.due("BAD", HiringFairs.BAD, -2);
        CHECK.due("STATE", HiringFairs.STATE, -3);
        CHECK.due("FULL", HiringFairs.FULL, -4);
        CHECK.due("NONE", HiringFairs.NONE, -9);
        Set<String> names = new TreeSet<>();
        for (Field field : HiringFairs.class.getDeclaredFields()) {
            if (!Modifier.isPrivate(field.getModifiers())) {
                names.add(field.getName());
                CHECK.holds(field + " is a public constant", Modifier.isPublic(field.getModifiers())
                        && Modifier.isStatic(field.getModifiers()) && field.getType() == int.class);
            }
        }
        CHECK.holds("the constants are the document's: " + names, names.equals(new TreeSet<>(Arrays.asList(CONSTANTS))));
        fields(HiringFairs.class);
    }

    private static void nestedClasses() {
        Class<?>[] nested = HiringFairs.class.getDeclaredClasses();
        CHECK.holds("some twelve classes at most", nested.length < 12);
        for (Class<?> type : nested) {
            int modifiers = type.getModifiers();
            CHECK.holds(type + " is static", Modifier.isStatic(modifiers));
            CHECK.holds(type + " is not public, not protected",
                    !Modifier.isPublic(modifiers) && !Modifier.isProtected(modifiers));
            fields(type);
            for (Method method : type.getDeclaredMethods()) {
                CHECK.holds(method + " bears no public one's name", !isOfTheFace(method.getName()));
            }
        }
    }

    private static boolean isOfTheFace(String name) {
        return Arrays.stream(METHODS).anyMatch(told -> told.startsWith("int " + name + "("));
    }

    private static void fields(Class<?> type) {
        int own = 0;
        for (Field field : type.getDeclaredFields()) {
            if (Modifier.isStatic(field.getModifiers())) {
                CHECK.holds(field + " is final", Modifier.isFinal(field.getModifiers()));
            } else {
                own++;
            }
        }
        CHECK.holds(type + " has some twenty fields at most", own <= 20);
        for (Method method : type.getDeclaredMethods()) {
            CHECK.holds(method + " has seven parameters at most", method.getParameterCount() <= 7);
        }
    }

    private static void source() throws IOException {
        Path root = Path.of(System.getProperty("project.root", "."));
        String text = Files.readString(root.resolve("src/main/java/HiringFairs.java"));
        String code = text.replaceAll("(?s)/\\*.*?\\*/", "").replaceAll("//[^\n]*", "");
        for (String forbidden : FORBIDDEN) {
            CHECK.holds("the code is without " + forbidden, !Pattern.compile(forbidden).matcher(code).find());
        }
        CHECK.holds("characters 0 to 255 alone", text.chars().allMatch(c -> c <= 255));
        methodLengths(text);
    }

    /** By the indentation: a method's head ends in ") {", and its end stands as far in as its head. */
    private static void methodLengths(String text) {
        String[] lines = text.split("\n");
        Pattern head = Pattern.compile("( {4}| {8})[A-Za-z][\\w\\[\\] ]*\\([^()]*\\) \\{");
        Pattern statement = Pattern.compile(" *(if|for|while|switch|else)\\b.*");
        int methods = 0;
        for (int i = 0; i < lines.length; i++) {
            if (!head.matcher(lines[i]).matches() || statement.matcher(lines[i]).matches()) {
                continue;
            }
            String end = lines[i].replaceAll("\\S.*", "") + "}";
            int last = i;
            while (last < lines.length && !lines[last].equals(end)) {
                last++;
            }
            methods++;
            CHECK.holds("sixty lines at most: " + lines[i].trim(), last - i < 60);
        }
        CHECK.holds("the methods are found: " + methods, methods > METHODS.length);
    }
}
