import java.io.IOException;
import java.lang.reflect.Method;
import java.lang.reflect.Modifier;
import java.net.URL;
import java.net.URLClassLoader;
import java.nio.file.Files;
import java.nio.file.Path;
import java.util.ArrayList;
import java.util.List;
import java.util.regex.Matcher;
import java.util.regex.Pattern;
import javax.tools.JavaCompiler;
import javax.tools.ToolProvider;

/** What README.md shows, as it stands there: its Java is compiled and run, and each call answers what is named behind it. */
public final class ReadmeTest {
    private static final Path README = Path.of("README.md");
    private static final Path BUILD = Path.of("build", "readme");
    private static final Pattern SHOWN = Pattern.compile("(\\S.*\\));\\s+// (true|false|-?\\d+)(: .*)?");
    private static final String NEW_DESK = "LocationDesk desk = new LocationDesk();";
    private static final int MOST_CALLS = 512;

    private final List<String> imports = new ArrayList<>();
    private final List<String> helpers = new ArrayList<>();
    private final List<String> story = new ArrayList<>();
    private final List<String> calls = new ArrayList<>();
    private final List<String> answers = new ArrayList<>();

    public static void main(String[] args) throws IOException, ReflectiveOperationException {
        List<String> lines = Files.readAllLines(README);
        ReadmeTest test = new ReadmeTest();
        test.read(lines);
        test.compare(run(test.program()));
        everyMethod(String.join("\n", test.calls));
        everyTest(String.join("\n", lines));
        Check.finish("ReadmeTest");
    }

    /** A block with a method in it holds helpers; the others are the story, a call a line. */
    private void read(List<String> lines) {
        List<String> block = null;
        for (String line : lines) {
            if (line.equals("```java")) {
                block = new ArrayList<>();
            } else if (line.equals("```") && block != null) {
                takeBlock(block);
                block = null;
            } else if (block != null) {
                block.add(line);
            }
        }
        Check.due("the last block ends", block == null, true);
    }

    private void takeBlock(List<String> block) {
        boolean isHelp = block.stream().anyMatch(line -> line.startsWith("static "));
        for (String line : block) {
            if (!isHelp) {
                takeCall(line);
            } else if (line.startsWith("import ")) {
                imports.add(line);
            } else {
                helpers.add(line);
            }
        }
    }

    private void takeCall(String line) {
        Matcher shown = SHOWN.matcher(line);
        if (shown.matches()) {
            story.add("told.add(String.valueOf(" + shown.group(1) + "));");
            calls.add(shown.group(1));
            answers.add(shown.group(2));
        } else {
            Check.due("a line that names its answer, or makes the desk: " + line, line.equals(NEW_DESK) || line.isEmpty(), true);
            story.add(line);
        }
    }

    private String program() {
        List<String> text = new ArrayList<>(imports);
        text.add("public final class Shown {");
        text.addAll(helpers);
        text.add("public static void tell(java.util.List<String> told) {");
        text.addAll(story);
        text.add("}");
        text.add("}");
        return String.join("\n", text);
    }

    private static List<String> run(String program) throws IOException, ReflectiveOperationException {
        List<String> told = new ArrayList<>();
        Files.createDirectories(BUILD);
        Path file = Files.writeString(BUILD.resolve("Shown.java"), program);
        JavaCompiler compiler = ToolProvider.getSystemJavaCompiler();
        int failed = compiler == null ? -1 : compiler.run(null, null, null, "-Xlint:all", "-Werror", "-d", BUILD.toString(),
            "-cp", System.getProperty("java.class.path"), file.toString());
        Check.due("compiling what README.md shows", failed, 0);
        if (failed == 0) {
            try (URLClassLoader loader = new URLClassLoader(new URL[] {BUILD.toUri().toURL()})) {
                loader.loadClass("Shown").getMethod("tell", List.class).invoke(null, told);
            }
        }
        return told;
    }

    private void compare(List<String> told) {
        Check.due("how many calls answered", told.size(), calls.size());
        for (int i = 0; i < told.size() && i < calls.size(); i++) {
            String call = "README.md: " + calls.get(i) + " answered " + told.get(i) + ", it names " + answers.get(i);
            Check.due(call, told.get(i).equals(answers.get(i)), true);
        }
        Check.due("within the calls of one object", calls.size() + 200 < MOST_CALLS, true);
    }

    private static void everyMethod(String shown) {
        for (Method method : LocationDesk.class.getDeclaredMethods()) {
            if (Modifier.isPublic(method.getModifiers())) {
                Check.due("README.md shows " + method.getName(), shown.contains("desk." + method.getName() + "("), true);
            }
        }
    }

    private static void everyTest(String text) {
        String[] names = Path.of("src", "test", "java").toFile().list();
        Check.due("there are tests", names != null, true);
        for (String name : names == null ? new String[0] : names) {
            if (name.endsWith("Test.java")) {
                String test = name.substring(0, name.length() - ".java".length());
                Check.due("README.md names " + test, text.contains("`" + test + "`"), true);
            }
        }
        Check.due("README.md names the script, which is there", text.contains("\n.ci/run\n") && Files.isExecutable(Path.of(".ci", "run")), true);
    }
}
