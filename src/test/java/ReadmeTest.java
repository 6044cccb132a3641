import java.io.File;
import java.lang.reflect.Method;
import java.lang.reflect.Modifier;
import java.net.URL;
import java.net.URLClassLoader;
import java.nio.file.Files;
import java.nio.file.Path;
import java.util.ArrayList;
import java.util.List;
import java.util.function.LongConsumer;
import java.util.regex.Matcher;
import java.util.regex.Pattern;
import javax.tools.ToolProvider;

/**
 * What README.md shows of the use of the class compiles and answers as it says: its Java blocks are
 * one program, and each call is followed by the answer that is due, a number or a constant's name.
 */
public final class ReadmeTest {
    private static final Path README = Path.of("README.md");
    private static final Pattern BLOCK = Pattern.compile("(?ms)^```java\\R(.*?)^```$");
    private static final String MAKER = "OrderedPeers x = new OrderedPeers();";
    private static final Pattern CALL = Pattern.compile(
            "((?:int|long) (\\w+) = )?(x\\.(\\w+)\\(.*\\));\\s+// (-?\\d+|BAD|STATE|FULL|NONE)(?::.*)?");
    private static final int MOST_CALLS = 512;
    private static final Check CHECK = new Check();

    /** A line that calls the class, what it calls, and the answer that is said to be due. */
    private record Shown(String line, String method, long due) {
    }

    private final List<Shown> calls = new ArrayList<>();
    private final StringBuilder body = new StringBuilder();

    public static void main(String[] args) throws Exception {
        ReadmeTest test = new ReadmeTest();
        test.read(Files.readString(README));
        test.compare(test.answers());
        CHECK.end();
    }

    private void read(String readme) throws Exception {
        Matcher block = BLOCK.matcher(readme);
        while (block.find()) {
            for (String line : block.group(1).split("\\R")) {
                readLine(line.strip());
            }
        }
        CHECK.holds("at most " + MOST_CALLS + " calls are shown", calls.size() <= MOST_CALLS);
        for (Method m : OrderedPeers.class.getDeclaredMethods()) {
            boolean isShown = calls.stream().anyMatch(call -> call.method.equals(m.getName()));
            CHECK.holds(m.getName() + " is shown", isShown || !Modifier.isPublic(m.getModifiers()));
        }
    }

    private void readLine(String line) throws Exception {
        if (line.isEmpty() || line.equals(MAKER)) {
            body.append(line).append('\n');
            return;
        }
        Matcher call = CALL.matcher(line);
        CHECK.holds(line + ": is a call with its answer", call.matches());
        if (!call.matches()) {
            return;
        }
        if (call.group(1) == null) {
            body.append("answer.accept(").append(call.group(3)).append(");\n");
        } else {
            body.append(call.group(1)).append(call.group(3)).append(";\n");
            body.append("answer.accept(").append(call.group(2)).append(");\n");
        }
        calls.add(new Shown(line, call.group(4), number(call.group(5))));
    }

    private static long number(String due) throws Exception {
        return Character.isLetter(due.charAt(0)) ? OrderedPeers.class.getField(due).getInt(null) : Long.parseLong(due);
    }

    private List<Long> answers() throws Exception {
        List<Long> answers = new ArrayList<>();
        Path folder = Files.createTempDirectory("readme");
        File source = folder.resolve("ReadmeUse.java").toFile();
        Files.writeString(source.toPath(), "public final class ReadmeUse {\n"
                + "public static void run(java.util.function.LongConsumer answer) {\n" + body + "}\n}\n");
        int failed = ToolProvider.getSystemJavaCompiler().run(null, null, null, "-Xlint:all", "-Werror",
                "-cp", System.getProperty("java.class.path"), "-d", folder.toString(), source.toString());
        CHECK.due("what README.md shows compiles", failed, 0);
        if (failed == 0) {
            try (URLClassLoader loader = new URLClassLoader(new URL[] {folder.toUri().toURL()})) {
                LongConsumer keep = answers::add;
                loader.loadClass("ReadmeUse").getMethod("run", LongConsumer.class).invoke(null, keep);
            }
        }
        for (File made : folder.toFile().listFiles()) {
            made.delete();
        }
        folder.toFile().delete();
        return answers;
    }

    private void compare(List<Long> answers) {
        CHECK.due("answers to what is shown", answers.size(), calls.size());
        for (int i = 0; i < Math.min(answers.size(), calls.size()); i++) {
            CHECK.due(calls.get(i).line, answers.get(i), calls.get(i).due);
        }
    }
}
