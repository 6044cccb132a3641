import java.lang.reflect.Constructor;
import java.lang.reflect.Field;
import java.lang.reflect.Method;
import java.lang.reflect.Modifier;
import java.nio.file.Files;
import java.nio.file.Path;
import java.util.HashSet;
import java.util.Set;
import java.util.TreeSet;
import java.util.regex.Matcher;
import java.util.regex.Pattern;

/** The public face of the document, and those rules of LANGUAGE.md that can be seen in the text. */
public final class FaceTest {
    private static final String[] FACE = {
        "int peer(int,int)", "int drawn(int)", "int seed(int)", "int join(int,int)", "int leave(int)",
        "int again(int,int)", "int find(int,int)", "int span(int,int,int)", "int tally(int,int,int)",
        "int put(int,int,long)", "int get(int,int)", "int ask(int,int)", "int passed(int,int)",
        "int noted(int,int)", "long value(int)", "int deliver(int)", "int all(int)", "int message(int,int)",
        "int told(int,int)", "int name(int)", "int beside(int,int,int)", "int key(int,int)", "long kept(int,int)",
        "int keeper(int)", "int row(int,int,int)", "int sound()", "int why(int)", "int worst()", "int count(int)"};
    private static final Check CHECK = new Check();

    public static void main(String[] args) throws Exception {
        methods();
        constants();
        nestedClasses();
        text(Files.readString(Path.of("src/main/java/OrderedPeers.java")));
        CHECK.end();
    }

    private static void methods() {
        Set<String> publicOnes = new TreeSet<>();
        Set<String> names = new HashSet<>();
        for (Method m : OrderedPeers.class.getDeclaredMethods()) {
            if (Modifier.isPublic(m.getModifiers())) {
                publicOnes.add(shown(m));
                names.add(m.getName());
            }
        }
        CHECK.holds("the methods are those of the document", publicOnes.equals(new TreeSet<>(Set.of(FACE))));
        for (Method m : OrderedPeers.class.getDeclaredMethods()) {
            boolean isPublic = Modifier.isPublic(m.getModifiers());
            CHECK.holds(m + " is public or private", isPublic || Modifier.isPrivate(m.getModifiers()));
            CHECK.holds(m + " has a name of its own", isPublic || !names.contains(m.getName()));
            CHECK.holds(m + " takes at most seven", m.getParameterCount() <= 7);
        }
        Constructor<?>[] makers = OrderedPeers.class.getConstructors();
        CHECK.holds("one public constructor", makers.length == 1 && makers[0].getParameterCount() == 0);
        CHECK.holds("final", Modifier.isFinal(OrderedPeers.class.getModifiers()));
    }

    private static String shown(Method m) {
        StringBuilder text = new StringBuilder(m.getReturnType() + " " + m.getName() + "(");
        for (Class<?> type : m.getParameterTypes()) {
            text.append(text.charAt(text.length() - 1) == '(' ? "" : ",").append(type);
        }
        return text.append(")").toString();
    }

    private static void constants() {
        CHECK.due("BAD", OrderedPeers.BAD, -1);
        CHECK.due("STATE", OrderedPeers.STATE, -2);
        CHECK.due("FULL", OrderedPeers.FULL, -3);
        CHECK.due("NONE", OrderedPeers.NONE, -4);
        int shown = 0;
        for (Field f : OrderedPeers.class.getDeclaredFields()) {
            shown += Modifier.isPrivate(f.getModifiers()) ? 0 : 1;
        }
        CHECK.due("fields that are not private", shown, 4);
    }

    private static void nestedClasses() {
        Class<?>[] inside = OrderedPeers.class.getDeclaredClasses();
        CHECK.holds("at most twelve classes", inside.length < 12);
        for (Class<?> c : inside) {
            CHECK.holds(c + " is static", Modifier.isStatic(c.getModifiers()));
            CHECK.holds(c + " has some twenty fields at most", c.getDeclaredFields().length <= 20);
        }
    }

    private static void text(String source) {
        String code = source.replaceAll("(?s)/\\*.*?\\*/", "").replaceAll("//[^\n]*", "");
        String[] words = {"throw", "throws", "try", "catch", "finally", "synchronized", "assert", "import",
            "package", "protected", "double", "float", "System", "Thread"};
        for (String word : words) {
            Matcher m = Pattern.compile("\\b" + word + "\\b").matcher(code);
            CHECK.holds("no " + word, !m.find());
        }
        CHECK.holds("no lambda", !code.contains("->"));
        CHECK.holds("no method reference", !code.contains("::"));
        CHECK.holds("no static block", !Pattern.compile("\\bstatic\\s*\\{").matcher(code).find());
    }
}
