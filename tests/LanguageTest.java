import java.lang.reflect.Method;
import java.lang.reflect.Modifier;
import java.nio.file.Files;
import java.nio.file.Path;
import java.util.Arrays;
import java.util.List;
import java.util.Set;
import java.util.regex.Matcher;
import java.util.regex.Pattern;
import java.util.stream.Collectors;

/** The rules of LANGUAGE.md that a look at the text of the class can tell. */
public final class LanguageTest {
    private static final int MOST_LINES_OF_A_METHOD = 60;
    private static final int MOST_CLASSES = 12;
    private static final List<String> FORBIDDEN = List.of("->", "::", "\\b(try|catch|finally|synchronized|assert|native"
            + "|instanceof|transient|volatile|package)\\b", "\\w+Exact\\b", "\\bHashMap\\b|\\bString\\.format\\b",
            "\\b(equals|hashCode|toString)\\(\\)", "\"\\s*\\+|\\+\\s*\"", "Double\\.|Float\\.|System\\.(?!arraycopy)");

    public static void main(String[] args) throws Exception {
        String source = Files.readString(Path.of("src/main/java/WindElection.java"));
        String code = source.replaceAll("(?s)/\\*.*?\\*/", "").replaceAll("//[^\n]*", "");
        for (String word : FORBIDDEN) {
            Matcher matcher = Pattern.compile(word).matcher(code);
            Due.compare("a look for " + word, matcher.find() ? matcher.group() : "none", "none");
        }
        imports(code);
        staticFields(code);
        names();
        methods(code);
        long classes = Pattern.compile("\\b(class|enum|interface|record) \\w+").matcher(code).results().count();
        Due.compare("the number of classes is small", "" + (classes <= MOST_CLASSES), "true");
        Due.finish();
    }

    private static void imports(String code) {
        String imports = Pattern.compile("^import .*;$", Pattern.MULTILINE).matcher(code).results()
                .map(m -> m.group()).collect(Collectors.joining("\n"));
        Due.compare("the imports", imports, "import java.util.NoSuchElementException;");
    }

    private static void staticFields(String code) {
        Matcher matcher = Pattern.compile("^ *(private )?static (?!final)[^(\n]*;$", Pattern.MULTILINE).matcher(code);
        Due.compare("a look for static state", matcher.find() ? matcher.group() : "none", "none");
    }

    /** No method bears the name of one of the face, in the classes inside neither. */
    private static void names() {
        Set<String> face = Arrays.stream(WindElection.class.getDeclaredMethods())
                .filter(m -> Modifier.isPublic(m.getModifiers())).map(Method::getName).collect(Collectors.toSet());
        for (Method method : WindElection.class.getDeclaredMethods()) {
            hasOtherName(method, face);
        }
        for (Class<?> inside : WindElection.class.getDeclaredClasses()) {
            Due.compare(inside + " is static", "" + Modifier.isStatic(inside.getModifiers()), "true");
            for (Method method : inside.getDeclaredMethods()) {
                hasOtherName(method, face);
            }
        }
    }

    private static void hasOtherName(Method method, Set<String> face) {
        boolean isOfTheFace = method.getDeclaringClass() == WindElection.class
                && Modifier.isPublic(method.getModifiers());
        if (!isOfTheFace) {
            Due.compare(method + " has the name of a public one", "" + face.contains(method.getName()), "false");
        }
    }

    private static void methods(String code) {
        int start = 0;
        String head = "";
        String[] lines = code.split("\n");
        for (int i = 0; i < lines.length; i++) {
            if (lines[i].matches(" {4,8}[\\w\\[\\]<> ]+\\(.*") && !lines[i].endsWith(";")) {
                start = i;
                head = lines[i].strip();
            }
            if (lines[i].matches(" {4,8}\\}") && !head.isEmpty()) {
                boolean isShort = i - start < MOST_LINES_OF_A_METHOD;
                Due.compare(head + " is short", "" + isShort, "true");
                head = "";
            }
        }
    }
}
