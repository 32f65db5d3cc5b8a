import java.io.ByteArrayOutputStream;
import java.io.File;
import java.io.IOException;
import java.io.InputStream;
import java.lang.reflect.Method;
import java.lang.reflect.Modifier;
import java.nio.charset.StandardCharsets;
import java.nio.file.Files;
import java.nio.file.Path;
import java.util.Set;
import java.util.TreeSet;
import java.util.regex.Matcher;
import java.util.regex.Pattern;
import java.util.stream.Stream;
import javax.tools.JavaCompiler;
import javax.tools.ToolProvider;

/** README.md: its example prints what it says, and its tables are those of the program. */
public final class ReadmeTest {
    public static void main(String[] args) throws IOException, InterruptedException {
        String readme = Files.readString(Path.of("README.md"));
        example(readme);
        calls(readme);
        settings(readme);
        tests(readme);
        Check.end();
    }

    private static void example(String readme) throws IOException, InterruptedException {
        Path room = Files.createTempDirectory("readme");
        Path source = room.resolve("Example.java");
        Files.writeString(source, part(readme, "java"));
        JavaCompiler compiler = ToolProvider.getSystemJavaCompiler();
        Check.due("there is a compiler", true, compiler != null);
        int code = compiler == null ? 1 : compiler.run(null, null, null, "-d", room.toString(),
            "src/main/java/KnockControl.java", source.toString());
        Check.due("the example compiles", 0, code);
        String printed = code == 0 ? run(room) : "";
        Check.due("the example prints:\n" + printed + "which", true, printed.equals(part(readme, "text")));
        try (Stream<Path> files = Files.list(room)) {
            files.forEach(file -> file.toFile().delete());
        }
        Files.delete(room);
    }

    private static String run(Path room) throws IOException, InterruptedException {
        String java = System.getProperty("java.home") + File.separator + "bin" + File.separator + "java";
        Process process = new ProcessBuilder(java, "-cp", room.toString(), "Example")
            .redirectErrorStream(true).start();
        ByteArrayOutputStream printed = new ByteArrayOutputStream();
        try (InputStream input = process.getInputStream()) {
            input.transferTo(printed);
        }
        Check.due("exit code of the example", 0, process.waitFor());
        return printed.toString(StandardCharsets.UTF_8).replace("\r\n", "\n");
    }

    /** What stands between the fences of the first part of this kind. */
    private static String part(String readme, String kind) {
        Matcher matcher = Pattern.compile("(?s)```" + kind + "\n(.*?)```").matcher(readme);
        boolean found = matcher.find();
        Check.due("README.md has a part of the kind " + kind, true, found);
        return found ? matcher.group(1) : "";
    }

    private static void calls(String readme) {
        Set<String> told = new TreeSet<>();
        for (String row : readme.split("\n")) {
            if (row.startsWith("| `")) {
                Matcher matcher = Pattern.compile("`(\\w+)\\(([^)]*)\\)`").matcher(row.split("\\|")[1]);
                while (matcher.find()) {
                    int count = matcher.group(2).isEmpty() ? 0 : matcher.group(2).split(",").length;
                    told.add(matcher.group(1) + " " + count);
                }
            }
        }
        Set<String> there = new TreeSet<>();
        for (Method method : KnockControl.class.getDeclaredMethods()) {
            if (Modifier.isPublic(method.getModifiers())) {
                there.add(method.getName() + " " + method.getParameterCount());
            }
        }
        Check.due("README.md tells the calls " + told + ", there are " + there, true, told.equals(there));
    }

    private static void settings(String readme) {
        Matcher matcher = Pattern.compile("(?m)^\\| (\\d) \\| the [^|]* \\| (\\d+) \\| (\\d+) \\| (\\d+) \\|$")
            .matcher(readme);
        int count = 0;
        while (matcher.find()) {
            int what = Integer.parseInt(matcher.group(1));
            int least = Integer.parseInt(matcher.group(2));
            int most = Integer.parseInt(matcher.group(3));
            KnockControl x = new KnockControl();
            Check.due("settings in their order", count, what);
            Check.due("setting " + what + " at first", Integer.parseInt(matcher.group(4)), x.set(what, least));
            Check.due("setting " + what + " at least", least, x.set(what, most));
            Check.due("setting " + what + " at most", most, x.value(what));
            Check.refusedArgument(x, "setting " + what + " below", () -> x.set(what, least - 1));
            Check.refusedArgument(x, "setting " + what + " above", () -> x.set(what, most + 1));
            count++;
        }
        Check.due("settings that README.md tells", 8, count);
    }

    /** Each test stands in the table of tests. */
    private static void tests(String readme) throws IOException {
        try (Stream<Path> files = Files.list(Path.of("src/test/java"))) {
            for (Path file : files.toList()) {
                String name = file.getFileName().toString();
                if (name.endsWith("Test.java")) {
                    String row = "| " + name.replace(".java", "") + " |";
                    Check.due("README.md has the row " + row, true, readme.contains(row));
                }
            }
        }
    }
}
