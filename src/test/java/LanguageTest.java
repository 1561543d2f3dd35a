import java.io.IOException;
import java.lang.reflect.Field;
import java.lang.reflect.Method;
import java.lang.reflect.Modifier;
import java.nio.file.Files;
import java.nio.file.Path;
import java.util.ArrayList;
import java.util.Arrays;
import java.util.HashSet;
import java.util.List;
import java.util.Set;
import java.util.regex.Matcher;
import java.util.regex.Pattern;

/** What of ../shared/LANGUAGE.md can be seen from the text and from the compiled class. */
public final class LanguageTest {
    private static final String[] NEVER = {"throw", "throws", "try", "catch", "synchronized", "assert", "->", "::", "import static",
        "protected", "native", "volatile", "Object", "Exception", "Error", "hashCode", "toString", "Random", "System.out",
        "System.nanoTime", "System.currentTimeMillis", "Thread", "Exact", "java.io", "java.lang", "this;", "var"};
    private static final String[] CALLS = {"Arrays.fill", "Math.min", "Math.max", "Integer.bitCount", "System.arraycopy"};
    private static final String[] FACE = {"feed", "read", "say", "drop", "about", "nth", "fits", "out", "many", "row", "alike",
        "parted", "inside", "show", "back", "agrees", "paid", "find", "next", "found", "open", "ask", "asked", "noise", "count"};
    private static final Check CHECK = new Check();

    public static void main(String[] args) throws IOException {
        String file = Files.readString(Path.of("src/main/java/ShownPatterns.java"));
        String code = file.replaceAll("(?s)/\\*.*?\\*/", "").replaceAll("//[^\n]*", "").replaceAll("'[^']'", "' '");
        for (String word : NEVER) {
            String regex = Character.isLetter(word.charAt(0)) ? "\\b" + Pattern.quote(word) + "\\b" : Pattern.quote(word);
            CHECK.due(word, Pattern.compile(regex).matcher(code).find() ? 1 : 0, 0);
        }
        library(code);
        face();
        methods(code);
        CHECK.end();
    }

    private static void library(String code) {
        Matcher calls = Pattern.compile("\\b(Arrays|Math|Integer|Long|System|String|StringBuilder|List|ArrayList)\\b\\.?\\w*")
                .matcher(code.replaceAll("import [^;]*;", ""));
        Set<String> allowed = new HashSet<>(Arrays.asList(CALLS));
        while (calls.find()) {
            CHECK.due("the library's " + calls.group(), allowed.contains(calls.group()) ? 1 : 0, 1);
        }
        CHECK.due("imports", Pattern.compile("import (?!java\\.util\\.Arrays;)").matcher(code).find() ? 1 : 0, 0);
    }

    private static void face() {
        Set<String> names = new HashSet<>(Arrays.asList(FACE));
        Set<String> seen = new HashSet<>();
        for (Method method : ShownPatterns.class.getDeclaredMethods()) {
            boolean isPublic = Modifier.isPublic(method.getModifiers());
            CHECK.due("a name of the face: " + method, names.contains(method.getName()) ? 1 : 0, isPublic ? 1 : 0);
            CHECK.due("private: " + method, Modifier.isPrivate(method.getModifiers()) ? 1 : 0, isPublic ? 0 : 1);
            if (isPublic) {
                seen.add(method.getName());
            }
        }
        CHECK.due("methods of the face", seen.size(), FACE.length);
        Set<String> constants = Set.of("BAD", "NOT", "FULL");
        for (Field field : ShownPatterns.class.getDeclaredFields()) {
            boolean isConstant = constants.contains(field.getName());
            CHECK.due("public: " + field, Modifier.isPublic(field.getModifiers()) ? 1 : 0, isConstant ? 1 : 0);
            CHECK.due("private: " + field, Modifier.isPrivate(field.getModifiers()) ? 1 : 0, isConstant ? 0 : 1);
        }
        Class<?>[] within = ShownPatterns.class.getDeclaredClasses();
        CHECK.due("some twelve classes", within.length + 1 <= 12 ? 1 : 0, 1);
        List<Class<?>> classes = new ArrayList<>(Arrays.asList(within));
        classes.add(ShownPatterns.class);
        for (Class<?> one : classes) {
            aClass(one, names);
        }
    }

    private static void aClass(Class<?> one, Set<String> names) {
        int fields = 0;
        for (Field field : one.getDeclaredFields()) {
            boolean isStatic = Modifier.isStatic(field.getModifiers());
            fields += isStatic ? 0 : 1;
            CHECK.due("a static field is final: " + field, !isStatic || Modifier.isFinal(field.getModifiers()) ? 1 : 0, 1);
        }
        CHECK.due("some twenty fields: " + one, fields <= 20 ? 1 : 0, 1);
        for (Method method : one.getDeclaredMethods()) {
            CHECK.due("seven parameters: " + method, method.getParameterCount() <= 7 ? 1 : 0, 1);
            boolean clash = one != ShownPatterns.class && names.contains(method.getName());
            CHECK.due("no name of the face: " + method, clash ? 1 : 0, 0);
        }
        if (one != ShownPatterns.class) {
            CHECK.due("static: " + one, Modifier.isStatic(one.getModifiers()) ? 1 : 0, 1);
        }
    }

    private static void methods(String code) {
        int began = 0;
        int line = 0;
        for (String text : code.split("\n")) {
            line++;
            if (text.matches("( {4}| {8})(?!.*\\bclass\\b)[\\w\\[\\]<> ]+\\([^;]*\\) \\{")) {
                began = line;
            }
            if (text.matches("( {4}| {8})\\}") && began > 0) {
                CHECK.due("short, from line " + began, line - began < 60 ? 1 : 0, 1);
                began = 0;
            }
        }
    }
}
