import java.lang.reflect.Method;
import java.nio.file.Files;
import java.nio.file.Path;
import java.util.ArrayList;
import java.util.Comparator;
import java.util.List;

/**
 * Runs the tests of a class, each for the words of the document that it is marked with. Words that
 * do not stand there fail too, so that a document that changes shows which tests are to be read again.
 */
final class Sentences {
    private static final Path DOCUMENT = Path.of("../shared/DOC.md");

    private final Check check = new Check();
    private final String document;

    private Sentences(String document) {
        this.document = document;
    }

    static void run(Class<?> tests) throws Exception {
        Sentences all = new Sentences(plain(Files.readString(DOCUMENT)));
        for (Method test : testsOf(tests)) {
            all.runOne(test);
        }
        all.check.end();
    }

    static void runForEveryPromise(Class<?> tests) throws Exception {
        for (int promise = 1; promise <= 30; promise++) {
            String section = "Promise " + promise;
            if (testsOf(tests).stream().noneMatch(test -> test.getAnnotation(Says.class).in().equals(section))) {
                System.out.println(section + " has no test in " + tests.getName());
                System.exit(1);
            }
        }
        run(tests);
    }

    private static List<Method> testsOf(Class<?> tests) {
        List<Method> found = new ArrayList<>();
        for (Method m : tests.getDeclaredMethods()) {
            if (m.isAnnotationPresent(Says.class)) {
                found.add(m);
            }
        }
        found.sort(Comparator.comparing(Method::getName));
        return found;
    }

    private void runOne(Method test) throws Exception {
        Says says = test.getAnnotation(Says.class);
        check.about(test.getName() + " (" + says.in() + ": \"" + says.value() + "\")");
        check.holds("the document says so", section(says.in()).contains(plain(says.value())));
        int before = check.looked();
        test.invoke(null, check);
        check.holds("something is looked at", check.looked() > before);
    }

    /** The section with that title, or the one of that promise; empty if there is none. */
    private String section(String title) {
        int start = Math.max(document.indexOf("## " + title + " "), document.indexOf("## " + title + ": "));
        if (start < 0) {
            return "";
        }
        int end = document.indexOf(" ## ", start);
        return end < 0 ? document.substring(start) : document.substring(start, end);
    }

    private static String plain(String text) {
        return text.replaceAll("\\s+", " ");
    }
}
