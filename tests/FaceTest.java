import java.lang.reflect.Constructor;
import java.lang.reflect.Field;
import java.lang.reflect.Member;
import java.lang.reflect.Method;
import java.lang.reflect.Modifier;
import java.nio.file.Files;
import java.nio.file.Path;
import java.util.Arrays;
import java.util.TreeSet;
import java.util.regex.Matcher;
import java.util.regex.Pattern;
import java.util.stream.Collectors;

/** The public face, as the document shows it, and nothing beside it. */
public final class FaceTest {
    private static final Pattern LINE = Pattern.compile(
            "^    public (?!WindElection)(\\w+) (\\w+)\\(([^)]*)\\)([^;]*);$", Pattern.MULTILINE);

    public static void main(String[] args) throws Exception {
        Due.compare("the methods", methodsOfTheClass().toString(), methodsOfTheDocument().toString());
        Due.compare("the number of constructors", "" + WindElection.class.getDeclaredConstructors().length, "1");
        Constructor<?> constructor = WindElection.class.getConstructor();
        Due.compare("the constructor's exceptions", "" + constructor.getExceptionTypes().length, "0");
        Due.compare("the class", Modifier.toString(WindElection.class.getModifiers()), "public final");
        for (Field field : WindElection.class.getDeclaredFields()) {
            isPrivate(field);
        }
        for (Method method : WindElection.class.getDeclaredMethods()) {
            if (!Modifier.isPublic(method.getModifiers())) {
                isPrivate(method);
            }
        }
        Due.finish();
    }

    private static TreeSet<String> methodsOfTheDocument() throws Exception {
        TreeSet<String> methods = new TreeSet<>();
        Matcher matcher = LINE.matcher(Files.readString(Path.of("../shared/DOC.md")));
        while (matcher.find()) {
            String types = Arrays.stream(matcher.group(3).split(", ")).map(p -> p.split(" ")[0])
                    .collect(Collectors.joining(","));
            String exceptions = matcher.group(4).replace(" throws ", "").replace(" ", "");
            methods.add(matcher.group(1) + " " + matcher.group(2) + "(" + types + ")" + exceptions);
        }
        return methods;
    }

    private static TreeSet<String> methodsOfTheClass() {
        TreeSet<String> methods = new TreeSet<>();
        for (Method method : WindElection.class.getDeclaredMethods()) {
            if (Modifier.isPublic(method.getModifiers())) {
                methods.add(method.getReturnType() + " " + method.getName() + "(" + names(method.getParameterTypes())
                        + ")" + names(method.getExceptionTypes()));
            }
        }
        return methods;
    }

    private static String names(Class<?>[] types) {
        return Arrays.stream(types).map(Class::getSimpleName).collect(Collectors.joining(","));
    }

    private static void isPrivate(Member member) {
        Due.compare(member.getName() + " is private", "" + Modifier.isPrivate(member.getModifiers()), "true");
    }
}
