import java.io.IOException;
import java.lang.reflect.Method;
import java.lang.reflect.Modifier;
import java.nio.charset.StandardCharsets;
import java.nio.file.Files;
import java.nio.file.Path;
import java.util.List;
import java.util.Set;
import java.util.TreeSet;
import java.util.regex.Matcher;
import java.util.regex.Pattern;
import javax.tools.JavaCompiler;
import javax.tools.ToolProvider;

/**
 * Makes the calls that README.md shows, and compares their answers with those that stand behind them. The
 * pieces of Java in it are put together to one program, which is compiled and run; so they are Java as they
 * stand there. The argument is the project's folder.
 */
public final class ReadmeTest {
    private static final Check CHECK = new Check();

    private static final String FENCE = "```";

    /** A call on a line of its own, and behind it the answer or what it throws, and why. */
    private static final Pattern SHOWN =
            Pattern.compile("(cards\\.(\\w+)\\(.*\\)); +// (?:throws (\\w+)|(NONE|true|false|-?[0-9.]+))(?:: .+)?");

    private final Set<String> shown = new TreeSet<>();
    private final StringBuilder program = new StringBuilder();

    public static void main(String[] args) throws Exception {
        Path root = Path.of(args.length > 0 ? args[0] : ".");
        new ReadmeTest().go(Files.readAllLines(root.resolve("README.md"), StandardCharsets.UTF_8));
        CHECK.end();
    }

    private void go(List<String> readme) throws Exception {
        program.append("final class ReadmeUse {\n    static void go(Check check) {\n");
        collect(readme);
        program.append("    }\n}\n");
        CHECK.same("methods that README.md shows", publicMethods().toString(), shown.toString());
        if (isCompiled()) {
            Method use = Class.forName("ReadmeUse").getDeclaredMethod("go", Check.class);
            use.invoke(null, CHECK);
        }
    }

    private static Set<String> publicMethods() {
        Set<String> names = new TreeSet<>();
        for (Method method : MirrorCards.class.getDeclaredMethods()) {
            if (Modifier.isPublic(method.getModifiers())) {
                names.add(method.getName());
            }
        }
        return names;
    }

    private void collect(List<String> readme) {
        boolean inJava = false;
        for (int i = 0; i < readme.size(); i++) {
            String line = readme.get(i);
            if (line.startsWith(FENCE)) {
                inJava = line.equals(FENCE + "java");
            } else if (inJava) {
                collect(i + 1, line);
            }
        }
        CHECK.isFalse("README.md ends within a piece of Java", inJava);
    }

    private void collect(int number, String line) {
        Matcher call = SHOWN.matcher(line);
        if (!call.matches()) {
            CHECK.isFalse("README.md, line " + number + " has a call without an answer", line.startsWith("cards."));
            program.append(line).append('\n');
            return;
        }
        shown.add(call.group(2));
        String due = call.group(3) != null ? call.group(3) : call.group(4);
        program.append("check.same(").append(quoted("README.md, line " + number + ", " + call.group(1)));
        program.append(", ").append(quoted(due.equals("NONE") ? "-1" : due));
        program.append(", Check.answer(cards, used -> ").append(call.group(1)).append("));\n");
    }

    private static String quoted(String text) {
        return '"' + text.replace("\\", "\\\\").replace("\"", "\\\"") + '"';
    }

    /** Compiles to where this test is, so that the program finds Check and is found. */
    private boolean isCompiled() throws Exception {
        Path classes = Path.of(ReadmeTest.class.getProtectionDomain().getCodeSource().getLocation().toURI());
        Path source = write(classes.resolve("readme"));
        JavaCompiler compiler = ToolProvider.getSystemJavaCompiler();
        int exit = compiler.run(null, System.out, System.out, "--release", "17", "-encoding", "UTF-8",
                "-cp", classes.toString(), "-d", classes.toString(), source.toString());
        CHECK.same("javac's exit code for the Java of README.md", 0, exit);
        return exit == 0;
    }

    private Path write(Path folder) throws IOException {
        Files.createDirectories(folder);
        Path source = folder.resolve("ReadmeUse.java");
        Files.writeString(source, program, StandardCharsets.UTF_8);
        return source;
    }
}
