import java.io.ByteArrayOutputStream;
import java.io.IOException;
import java.io.PrintStream;
import java.net.URL;
import java.net.URLClassLoader;
import java.nio.charset.StandardCharsets;
import java.nio.file.Files;
import java.nio.file.Path;
import java.util.Comparator;
import java.util.List;
import java.util.regex.Matcher;
import java.util.regex.Pattern;
import java.util.spi.ToolProvider;
import java.util.stream.Stream;

/** The program in README.md compiles and prints what README.md says, and every call of the face is named there. */
public final class ReadmeTest {
    public static void main(String[] args) throws Exception {
        String readme = Files.readString(Path.of("README.md"));
        Path folder = Files.createTempDirectory("readme");
        try {
            Due.compare("the program in README.md", output(block(readme, "java"), folder), block(readme, "text"));
        } finally {
            remove(folder);
        }
        for (String name : Call.face().keySet()) {
            Due.compare("README.md names " + name, "" + readme.contains("`" + name + "`"), "true");
        }
        Due.finish();
    }

    private static String block(String readme, String kind) {
        Matcher matcher = Pattern.compile("(?s)\n```" + kind + "\n(.*?)```\n").matcher(readme);
        return matcher.find() ? matcher.group(1) : "no block of " + kind;
    }

    private static String output(String program, Path folder) throws Exception {
        Path file = folder.resolve("Example.java");
        Files.writeString(file, program);
        List<String> arguments = List.of("-Xlint:all", "-Werror", "-classpath", System.getProperty("java.class.path"),
                "-d", folder.toString(), file.toString());
        int failed = ToolProvider.findFirst("javac").orElseThrow()
                .run(System.out, System.out, arguments.toArray(new String[0]));
        return failed == 0 ? printed(folder) : "a program that does not compile";
    }

    private static String printed(Path folder) throws Exception {
        ByteArrayOutputStream printed = new ByteArrayOutputStream();
        PrintStream before = System.out;
        try (URLClassLoader loader = new URLClassLoader(new URL[] {folder.toUri().toURL()});
                PrintStream kept = new PrintStream(printed, true, StandardCharsets.UTF_8)) {
            System.setOut(kept);
            loader.loadClass("Example").getMethod("main", String[].class).invoke(null, (Object) new String[0]);
        } finally {
            System.setOut(before);
        }
        return printed.toString(StandardCharsets.UTF_8).replace(System.lineSeparator(), "\n");
    }

    private static void remove(Path folder) throws IOException {
        try (Stream<Path> files = Files.walk(folder)) {
            for (Path file : files.sorted(Comparator.reverseOrder()).toList()) {
                Files.delete(file);
            }
        }
    }
}
