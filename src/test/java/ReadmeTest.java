import java.io.ByteArrayOutputStream;
import java.io.IOException;
import java.io.PrintStream;
import java.net.URL;
import java.net.URLClassLoader;
import java.nio.file.Files;
import java.nio.file.Path;
import java.util.ArrayList;
import java.util.List;
import java.util.TreeSet;
import java.util.regex.Matcher;
import java.util.regex.Pattern;
import java.util.stream.Stream;
import javax.tools.JavaCompiler;
import javax.tools.ToolProvider;

/** README.md tells what is so: its example prints what is said there, and its tables name all tests. */
public final class ReadmeTest {
    public static void main(String[] args) throws Exception {
        String readme = Files.readString(Path.of("README.md"));
        boolean fine = exampleIsRight(readme);
        fine &= same("tests", tests(), new ArrayList<>(new TreeSet<>(all(readme, "\\| `(\\w+Test)` \\|"))));
        System.out.println("ReadmeTest: README.md " + (fine ? "tells what is so" : "does not tell what is so"));
        System.exit(fine ? 0 : 1);
    }

    private static boolean exampleIsRight(String readme) throws Exception {
        JavaCompiler compiler = ToolProvider.getSystemJavaCompiler();
        if (compiler == null) {
            System.out.println("ReadmeTest: this java has no compiler in it, so the example is not run");
            return true;
        }
        return same("printed", printed(compiler, example(readme)), all(readme, "println.*// prints (-?\\d+)"));
    }

    private static boolean same(String what, List<String> found, List<String> told) {
        if (found.isEmpty() || !found.equals(told)) {
            System.out.println(what + ": " + found + ", README.md says " + told);
            return false;
        }
        return true;
    }

    private static List<String> all(String text, String pattern) {
        List<String> all = new ArrayList<>();
        Matcher matcher = Pattern.compile(pattern).matcher(text);
        while (matcher.find()) {
            all.add(matcher.group(1));
        }
        return all;
    }

    private static String example(String readme) {
        return all(readme, "(?s)```java\n(.*?)```").get(0);
    }

    private static List<String> tests() throws IOException {
        try (Stream<Path> files = Files.list(Path.of("src/test/java"))) {
            List<String> names = new ArrayList<>();
            files.map(file -> file.getFileName().toString()).filter(name -> name.endsWith("Test.java")).sorted()
                    .forEach(name -> names.add(name.replace(".java", "")));
            return names;
        }
    }

    /** The lines that the example prints, compiled against the class as it is. */
    private static List<String> printed(JavaCompiler compiler, String example) throws Exception {
        String name = all(example, "class (\\w+)").get(0);
        Path place = Files.createTempDirectory("readme");
        Path source = place.resolve(name + ".java");
        Files.writeString(source, example);
        String classes = System.getProperty("java.class.path");
        int failed = compiler.run(null, null, null, "-cp", classes, "-d", "" + place, "" + source);
        List<String> lines = failed == 0 ? run(place, name) : List.of();
        Files.deleteIfExists(place.resolve(name + ".class"));
        Files.delete(source);
        Files.delete(place);
        return lines;
    }

    private static List<String> run(Path place, String name) throws Exception {
        PrintStream before = System.out;
        ByteArrayOutputStream out = new ByteArrayOutputStream();
        try (URLClassLoader loader = new URLClassLoader(new URL[] {place.toUri().toURL()})) {
            System.setOut(new PrintStream(out, true));
            loader.loadClass(name).getMethod("main", String[].class).invoke(null, (Object) new String[0]);
        } finally {
            System.setOut(before);
        }
        return List.of(out.toString().split("\\R"));
    }
}
