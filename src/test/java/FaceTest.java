import java.io.IOException;
import java.lang.reflect.Constructor;
import java.lang.reflect.Field;
import java.lang.reflect.Method;
import java.lang.reflect.Modifier;
import java.nio.file.Files;
import java.nio.file.Path;
import java.util.HashMap;
import java.util.List;
import java.util.Map;
import java.util.TreeSet;
import java.util.regex.Matcher;
import java.util.regex.Pattern;

/** The public face of the document, and the rules of the language that can be seen from outside. */
public final class FaceTest {
    private static final String SOURCE = "src/main/java/PubQuizzes.java";
    private static final Map<String, Integer> CONSTANTS = Map.of("NO_SUCH", -1, "BAD_VALUE", -2, "BAD_TEXT", -3,
        "TOO_MANY", -4, "NOT_POSSIBLE", -5, "NONE", -6, "ENTRY", 0, "HOUSE", 1, "MINUS", 2, "FINE", 3);
    // Each method with the number of its int arguments; put alone takes a long.
    private static final String METHODS = "set2 team0 hand2 joker2 key1 mark4 look2 guess2 truth1 ofTeam2 ofRound2 sheet3"
        + " answer3 at1 count1 bestJoker2 most1 canWin0 ifLooked1 wrongMarks0 put1 wipe0 fault0 undo0 save1 restore1";
    private static final String[] FORBIDDEN = {"throw", "throws", "try", "catch", "synchronized", "assert", "package",
        "Object", "Exception", "System.out", "hashCode", "toString", "Random", "Thread", "native", "->", "::"};

    public static void main(String[] args) throws Exception {
        constants();
        members();
        nestedClasses();
        words();
        names();
        Checks.end();
    }

    private static void constants() throws IllegalAccessException {
        Map<String, Integer> found = new HashMap<>();
        for (Field field : PubQuizzes.class.getDeclaredFields()) {
            if (!Modifier.isPrivate(field.getModifiers())) {
                boolean constant = field.getModifiers() == (Modifier.PUBLIC | Modifier.STATIC | Modifier.FINAL);
                isTrue("constant " + field.getName(), constant && field.getType() == int.class);
                found.put(field.getName(), field.getInt(null));
            } else if (Modifier.isStatic(field.getModifiers())) {
                isTrue("final " + field.getName(), Modifier.isFinal(field.getModifiers()));
            }
        }
        isTrue("the constants of the document", found.equals(CONSTANTS));
    }

    private static void members() {
        TreeSet<String> found = new TreeSet<>();
        for (Method method : PubQuizzes.class.getDeclaredMethods()) {
            if (!Modifier.isPrivate(method.getModifiers())) {
                isTrue("public int " + method.getName(),
                    method.getModifiers() == Modifier.PUBLIC && method.getReturnType() == int.class);
                Class<?> of = method.getName().equals("put") ? long.class : int.class;
                isTrue("arguments of " + method.getName(), List.of(method.getParameterTypes()).stream().allMatch(t -> t == of));
                found.add(method.getName() + method.getParameterCount());
            }
        }
        isTrue("the methods of the document", found.equals(new TreeSet<>(List.of(METHODS.split(" ")))));
        Constructor<?>[] constructors = PubQuizzes.class.getDeclaredConstructors();
        isTrue("one constructor", constructors.length == 1 && constructors[0].getParameterCount() == 0
            && Modifier.isPublic(constructors[0].getModifiers()));
        isTrue("public final class", PubQuizzes.class.getModifiers() == (Modifier.PUBLIC | Modifier.FINAL));
    }

    private static void nestedClasses() {
        Class<?>[] inside = PubQuizzes.class.getDeclaredClasses();
        isTrue("at most twelve classes", inside.length < 12);
        for (Class<?> nested : inside) {
            int modifiers = nested.getModifiers();
            isTrue("static " + nested, Modifier.isStatic(modifiers) && !Modifier.isPublic(modifiers)
                && !Modifier.isProtected(modifiers));
        }
    }

    /** Words that the rules of the language leave out. */
    private static void words() throws IOException {
        String code = Files.readString(Path.of(SOURCE)).replaceAll("(?s)/\\*.*?\\*/", "").replaceAll("//.*", "");
        for (String word : FORBIDDEN) {
            String edge = Character.isLetter(word.charAt(0)) ? "\\b" : "";
            isTrue("without " + word, !Pattern.compile(edge + Pattern.quote(word) + edge).matcher(code).find());
        }
        Matcher imports = Pattern.compile("import [^;]*;").matcher(code);
        while (imports.find()) {
            isTrue(imports.group(), imports.group().equals("import java.util.Arrays;"));
        }
        isTrue("only the characters of ASCII", code.chars().allMatch(c -> c == '\n' || c >= 32 && c < 127));
    }

    /** No private method, of the classes inside either, bears the name of a public one. */
    private static void names() {
        List<String> taken = List.of(METHODS.replaceAll("[0-9]", "").split(" "));
        for (Class<?> nested : PubQuizzes.class.getDeclaredClasses()) {
            for (Method method : nested.getDeclaredMethods()) {
                isTrue(nested + "." + method.getName(), !taken.contains(method.getName()));
            }
        }
        for (Method method : PubQuizzes.class.getDeclaredMethods()) {
            isTrue(method.getName(), !Modifier.isPrivate(method.getModifiers()) || !taken.contains(method.getName()));
        }
    }

    private static void isTrue(String what, boolean is) {
        Checks.due(what, is ? 1 : 0, 1);
    }
}
