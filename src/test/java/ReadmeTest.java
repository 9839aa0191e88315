import java.net.URL;
import java.net.URLClassLoader;
import java.nio.file.Files;
import java.nio.file.Path;
import java.util.regex.Matcher;
import java.util.regex.Pattern;
import javax.tools.ToolProvider;

/** The example of README.md compiles and answers what its comments say; run from the project's folder. */
public final class ReadmeTest {
    static final Path README = Path.of("README.md");
    static final Pattern EXAMPLE = Pattern.compile("(?s)```java\n(.*?)```");
    static final Pattern NEW = Pattern.compile("ThingRules x = new ThingRules\\(\\);");
    static final Pattern CALL = Pattern.compile("(?:int (\\w+) = )?(x\\.(\\w+)\\(.*?\\)); +// (?:throws (\\w+)|(-?\\d+))(?::.*)?");

    /** Called by the example, once it has been made a program. */
    public static final class Answers {
        static int calls = 0;
        static int wrong = 0;

        private Answers() {
        }

        public static void due(String line, String want, String got) {
            calls++;
            if (!want.equals(got)) {
                wrong++;
                System.out.println(line + " answered " + got);
            }
        }
    }

    /** One line of the example as code that hands its answer to due(). */
    static String checked(String line) {
        Matcher call = CALL.matcher(line);
        if (line.isBlank() || NEW.matcher(line).matches()) {
            return line;
        }
        if (!call.matches()) {
            throw new IllegalStateException("no answer stands behind: " + line);
        }
        String told = "\"" + call.group(2) + "\"";
        if (call.group(4) != null) {
            String thrown = "\"" + call.group(4) + "\"";
            return "try { ReadmeTest.Answers.due(" + told + ", " + thrown + ", \"\" + " + call.group(2) + "); }"
                    + " catch (" + call.group(4) + " e) { ReadmeTest.Answers.due(" + told + ", " + thrown + ", " + thrown + "); }";
        }
        String name = call.group(1);
        String keep = name == null ? "" : "int " + name + " = " + call.group(2) + "; ";
        return keep + "ReadmeTest.Answers.due(" + told + ", \"" + call.group(5) + "\", \"\" + " + (name == null ? call.group(2) : name) + ");";
    }

    static String program(String text) {
        Matcher example = EXAMPLE.matcher(text);
        if (!example.find()) {
            throw new IllegalStateException("README.md has no example");
        }
        StringBuilder code = new StringBuilder("public final class ReadmeExample {\n  public static void main(String[] args) {\n");
        for (String line : example.group(1).split("\n")) {
            code.append(checked(line)).append('\n');
        }
        return code.append("  }\n}\n").toString();
    }

    static void compileAndRun(Path folder, String code) throws Exception {
        Path file = Files.writeString(folder.resolve("ReadmeExample.java"), code);
        String[] how = {"-cp", System.getProperty("java.class.path"), "-proc:none", "-d", folder.toString(), file.toString()};
        if (ToolProvider.getSystemJavaCompiler().run(null, null, null, how) != 0) {
            throw new IllegalStateException("the example of README.md does not compile");
        }
        try (URLClassLoader loader = new URLClassLoader(new URL[] {folder.toUri().toURL()}, ReadmeTest.class.getClassLoader())) {
            loader.loadClass("ReadmeExample").getMethod("main", String[].class).invoke(null, (Object) new String[0]);
        }
    }

    static void remove(Path folder) throws Exception {
        for (String name : new String[] {"ReadmeExample.java", "ReadmeExample.class"}) {
            Files.deleteIfExists(folder.resolve(name));
        }
        Files.delete(folder);
    }

    public static void main(String[] args) throws Exception {
        Path folder = Files.createTempDirectory("readme");
        try {
            compileAndRun(folder, program(Files.readString(README)));
        } finally {
            remove(folder);
        }
        System.out.println(Answers.calls + " answers, " + Answers.wrong + " are not as due");
        if (Answers.wrong != 0 || Answers.calls == 0) {
            System.exit(1);
        }
    }
}
