import java.io.IOException;
import java.lang.reflect.Method;
import java.lang.reflect.Modifier;
import java.net.URL;
import java.net.URLClassLoader;
import java.nio.file.Files;
import java.nio.file.Path;
import java.util.ArrayList;
import java.util.List;
import java.util.regex.Matcher;
import java.util.regex.Pattern;
import javax.tools.ToolProvider;

/**
 * What README.md says of how to use the class: its examples are one program, in which each call answers the number
 * behind its "//", and it names each method. Run from the project's folder.
 */
public final class ReadmeTest {
    private static final Pattern EXAMPLE = Pattern.compile("(?s)```java\n(.*?)```");
    private static final Pattern ANSWERED = Pattern.compile("(x\\.\\w+\\(.*?\\)); +// (-?\\d+)(?:: .*)?");
    private static int wrong = 0;
    private static int asked = 0;

    /** Called by the examples. */
    public static void due(String call, long got, long told) {
        asked++;
        if (got != told) {
            tell(call + " answers " + got + ", README.md says " + told);
        }
    }

    private static void tell(String what) {
        wrong++;
        System.out.println(what);
    }

    /** An example that begins with "static" is a method, all others are parts of one run of calls. */
    private static String program(String page) {
        StringBuilder methods = new StringBuilder();
        StringBuilder calls = new StringBuilder();
        Matcher examples = EXAMPLE.matcher(page);
        while (examples.find()) {
            boolean isMethod = examples.group(1).startsWith("static ");
            (isMethod ? methods : calls).append(isMethod ? examples.group(1) : asking(examples.group(1)));
        }
        return "public final class Examples {\n" + methods + "public static void run() {\n" + calls + "}\n}\n";
    }

    private static String asking(String example) {
        StringBuilder lines = new StringBuilder();
        for (String line : example.split("\n")) {
            Matcher call = ANSWERED.matcher(line);
            if (call.matches()) {
                line = "ReadmeTest.due(\"" + call.group(1) + "\", " + call.group(1) + ", " + call.group(2) + "L);";
            } else if (line.contains("//")) {
                tell("README.md tells no answer: " + line);
            }
            lines.append(line).append('\n');
        }
        return lines.toString();
    }

    private static void run(String program) throws IOException, ReflectiveOperationException {
        Path folder = Files.createTempDirectory("readme");
        Path file = Files.writeString(folder.resolve("Examples.java"), program);
        int failed = ToolProvider.getSystemJavaCompiler().run(null, null, null, "-proc:none",
            "-cp", System.getProperty("java.class.path"), "-d", folder.toString(), file.toString());
        if (failed == 0) {
            try (URLClassLoader loader = new URLClassLoader(new URL[] {folder.toUri().toURL()})) {
                loader.loadClass("Examples").getMethod("run").invoke(null);
            }
        } else {
            tell("the examples of README.md do not compile");
        }
        for (Path made : List.of(folder.resolve("Examples.class"), file, folder)) {
            Files.deleteIfExists(made);
        }
    }

    private static void namesEachMethod(String page) {
        List<String> missing = new ArrayList<>();
        for (Method m : HardestVows.class.getDeclaredMethods()) {
            if (Modifier.isPublic(m.getModifiers()) && !page.contains("`" + m.getName() + "`")) {
                missing.add(m.getName());
            }
        }
        if (!missing.isEmpty()) {
            tell("README.md does not name " + missing);
        }
    }

    public static void main(String[] args) throws IOException, ReflectiveOperationException {
        String page = Files.readString(Path.of("README.md"));
        run(program(page));
        namesEachMethod(page);
        System.out.println(asked + " answers of README.md asked, " + wrong + " faults");
        if (asked == 0 || wrong != 0) {
            System.exit(1);
        }
    }
}
