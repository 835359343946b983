import java.io.IOException;
import java.lang.reflect.Constructor;
import java.lang.reflect.Field;
import java.lang.reflect.Method;
import java.lang.reflect.Modifier;
import java.nio.file.Files;
import java.nio.file.Path;
import java.util.ArrayList;
import java.util.HashMap;
import java.util.List;
import java.util.Map;
import java.util.TreeSet;
import java.util.regex.Matcher;
import java.util.regex.Pattern;

/** The public face of the document, and the rules of the language that can be seen from outside. */
public final class FaceTest {
    private static final String SOURCE = "src/main/java/PubQuizzes.java";
    private static final Map<String, Integer> CONSTANTS = Map.of("NO_SUCH", -1, "BAD_VALUE", -2, "BAD_TEXT", -3,
        "TOO_MANY", -4, "NOT_POSSIBLE", -5, "NONE", -6, "ENTRY", 0, "HOUSE", 1, "MINUS", 2, "FINE", 3);
    // Each method with the number of its int arguments; put alone takes a long.
    private static final String METHODS = "set2 team0 hand2 joker2 key1 mark4 look2 guess2 truth1 ofTeam2 ofRound2 sheet3"
        + " answer3 at1 count1 bestJoker2 most1 canWin0 ifLooked1 wrongMarks0 put1 wipe0 fault0 undo0 save1 restore1";
    private static final String[] FORBIDDEN = {"throw", "throws", "try", "catch", "synchronized", "assert", "package",
        "Object", "Exception", "System.out", "hashCode", "toString", "Random", "Thread", "native", "->", "::"};

    public static void main(String[] args) throws Exception {
        constants();
        members();
        nestedClasses();
        sizes();
        words();
        names();
        lengths();
        depths();
        Checks.end();
    }

    private static void constants() throws IllegalAccessException {
        Map<String, Integer> found = new HashMap<>();
        for (Field field : PubQuizzes.class.getDeclaredFields()) {
            if (!Modifier.isPrivate(field.getModifiers())) {
                boolean constant = field.getModifiers() == (Modifier.PUBLIC | Modifier.STATIC | Modifier.FINAL);
                isTrue("constant " + field.getName(), constant && field.getType() == int.class);
                found.put(field.getName(), field.getInt(null));
            } else if (Modifier.isStatic(field.getModifiers())) {
                isTrue("final " + field.getName(), Modifier.isFinal(field.getModifiers()));
            }
        }
        isTrue("the constants of the document", found.equals(CONSTANTS));
    }

    private static void members() {
        TreeSet<String> found = new TreeSet<>();
        for (Method method : PubQuizzes.class.getDeclaredMethods()) {
            if (!Modifier.isPrivate(method.getModifiers())) {
                isTrue("public int " + method.getName(),
                    method.getModifiers() == Modifier.PUBLIC && method.getReturnType() == int.class);
                Class<?> of = method.getName().equals("put") ? long.class : int.class;
                isTrue("arguments of " + method.getName(), List.of(method.getParameterTypes()).stream().allMatch(t -> t == of));
                found.add(method.getName() + method.getParameterCount());
            }
        }
        isTrue("the methods of the document", found.equals(new TreeSet<>(List.of(METHODS.split(" ")))));
        Constructor<?>[] constructors = PubQuizzes.class.getDeclaredConstructors();
        isTrue("one constructor", constructors.length == 1 && constructors[0].getParameterCount() == 0
            && Modifier.isPublic(constructors[0].getModifiers()));
        isTrue("public final class", PubQuizzes.class.getModifiers() == (Modifier.PUBLIC | Modifier.FINAL));
    }

    private static void nestedClasses() {
        Class<?>[] inside = PubQuizzes.class.getDeclaredClasses();
        isTrue("at most twelve classes", inside.length < 12);
        for (Class<?> nested : inside) {
            int modifiers = nested.getModifiers();
            isTrue("static " + nested, Modifier.isStatic(modifiers) && !Modifier.isPublic(modifiers)
                && !Modifier.isProtected(modifiers));
        }
    }

    /** At most seven parameters, and some twenty fields beside the constants. */
    private static void sizes() {
        List<Class<?>> classes = new ArrayList<>(List.of(PubQuizzes.class.getDeclaredClasses()));
        classes.add(PubQuizzes.class);
        for (Class<?> each : classes) {
            for (Method method : each.getDeclaredMethods()) {
                isTrue("parameters of " + method, method.getParameterCount() <= 7);
            }
            long fields = List.of(each.getDeclaredFields()).stream().filter(f -> !Modifier.isStatic(f.getModifiers())).count();
            isTrue("fields of " + each, fields <= 20);
        }
    }

    /** The program without its comments. */
    private static String code() throws IOException {
        return Files.readString(Path.of(SOURCE)).replaceAll("(?s)/\\*.*?\\*/", "").replaceAll("//.*", "");
    }

    /** Each method of the program with its text; methods of the same name count as one. */
    private static Map<String, String> bodies() throws IOException {
        Map<String, String> bodies = new HashMap<>();
        Matcher method = Pattern.compile("(?ms)^( {4}| {8})(?:\\w+ )*\\w+(?:\\[\\])? (\\w+)\\([^()]*\\) \\{\\n(.*?)^\\1\\}$")
            .matcher(code());
        while (method.find()) {
            bodies.merge(method.group(2), method.group(3), (first, second) -> first + second);
        }
        return bodies;
    }

    private static void lengths() throws IOException {
        Map<String, String> bodies = bodies();
        isTrue("methods are found in " + SOURCE, bodies.keySet().containsAll(List.of(METHODS.replaceAll("[0-9]", "").split(" "))));
        bodies.forEach((name, body) -> isTrue("length of " + name, body.lines().count() <= 60));
    }

    /** Calls go at most eight deep; one that comes back to itself would go deeper than any. */
    private static void depths() throws IOException {
        Map<String, String> bodies = bodies();
        for (String name : bodies.keySet()) {
            isTrue("calls from " + name + " are at most eight deep", depth(bodies, name, 0) <= 8);
        }
    }

    private static int depth(Map<String, String> bodies, String name, int above) {
        int deepest = above + 1;
        Matcher call = Pattern.compile("\\b(\\w+)\\(").matcher(bodies.get(name));
        while (deepest <= 8 && call.find()) {
            if (bodies.containsKey(call.group(1))) {
                deepest = Math.max(deepest, depth(bodies, call.group(1), above + 1));
            }
        }
        return deepest;
    }

    /** Words that the rules of the language leave out. */
    private static void words() throws IOException {
        String code = code();
        for (String word : FORBIDDEN) {
            String edge = Character.isLetter(word.charAt(0)) ? "\\b" : "";
            isTrue("without " + word, !Pattern.compile(edge + Pattern.quote(word) + edge).matcher(code).find());
        }
        Matcher imports = Pattern.compile("import [^;]*;").matcher(code);
        while (imports.find()) {
            isTrue(imports.group(), imports.group().equals("import java.util.Arrays;"));
        }
        isTrue("only the characters of ASCII", code.chars().allMatch(c -> c == '\n' || c >= 32 && c < 127));
    }

    /** No private method, of the classes inside either, bears the name of a public one. */
    private static void names() {
        List<String> taken = List.of(METHODS.replaceAll("[0-9]", "").split(" "));
        for (Class<?> nested : PubQuizzes.class.getDeclaredClasses()) {
            for (Method method : nested.getDeclaredMethods()) {
                isTrue(nested + "." + method.getName(), !taken.contains(method.getName()));
            }
        }
        for (Method method : PubQuizzes.class.getDeclaredMethods()) {
            isTrue(method.getName(), !Modifier.isPrivate(method.getModifiers()) || !taken.contains(method.getName()));
        }
    }

    private static void isTrue(String what, boolean is) {
        Checks.due(what, is ? 1 : 0, 1);
    }
}
