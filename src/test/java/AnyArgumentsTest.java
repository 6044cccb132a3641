import java.lang.reflect.InvocationTargetException;
import java.lang.reflect.Method;
import java.lang.reflect.Modifier;
import java.util.List;
import java.util.function.Supplier;

/** No call throws, for any arguments in any state, and behind the 512th call neither (rule 7 of LANGUAGE.md). */
public final class AnyArgumentsTest {
    private static final int LOW = Integer.MIN_VALUE, HIGH = Integer.MAX_VALUE;
    private static final int[] NUMBERS = {LOW, LOW + 1, -2, -1, 0, 1, 2, 7, 8, 9, 15, 16, 17, 31, 32, 33, 39, 40, 41,
        159, 160, 161, 255, 256, 1000, 1001, HIGH - 1, HIGH};
    private static final List<Supplier<OrderedPeers>> STATES = List.of(
        OrderedPeers::new,
        () -> Made.out(LOW, 0, 0, 0, HIGH, 255),
        () -> Made.in(LOW, 0, 0, 0, HIGH, 255),
        () -> Made.chain(32),
        AnyArgumentsTest::joining,
        AnyArgumentsTest::leaving,
        AnyArgumentsTest::drawingAgain,
        AnyArgumentsTest::fullOfAsks);

    private static final Check CHECK = new Check();

    public static void main(String[] args) throws Exception {
        for (int state = 0; state < STATES.size(); state++) {
            for (Method m : OrderedPeers.class.getDeclaredMethods()) {
                if (Modifier.isPublic(m.getModifiers())) {
                    CHECK.about("state " + state);
                    callWithAll(m, STATES.get(state).get(), new Object[m.getParameterCount()], 0);
                }
            }
        }
        CHECK.end();
    }

    private static OrderedPeers joining() {
        OrderedPeers x = Made.chain(20);
        x.find(19, 0);
        x.put(19, 0, 1);
        x.peer(100, 0);
        x.join(20, 0);
        x.all(25);
        return x;
    }

    private static OrderedPeers leaving() {
        OrderedPeers x = Made.in(0, 0, 1, 0, 2, 0);
        x.put(0, 1, 1);
        x.all(1000);
        x.span(1, 0, 2);
        x.leave(1);
        return x;
    }

    private static OrderedPeers drawingAgain() {
        OrderedPeers x = Made.in(0, 0, 1, 0, 2, 0);
        x.get(1, 1);
        x.again(1, 128);
        return x;
    }

    private static OrderedPeers fullOfAsks() {
        OrderedPeers x = Made.chain(32);
        Made.makeAllAsks(x, 31);
        x.leave(31);
        return x;
    }

    /** Calls it with each of NUMBERS as each of the arguments from this one on. */
    private static void callWithAll(Method m, OrderedPeers x, Object[] arguments, int from) throws Exception {
        if (from == arguments.length) {
            call(m, x, arguments);
            return;
        }
        for (int number : NUMBERS) {
            if (m.getParameterTypes()[from] == long.class) {
                arguments[from] = (long) number << 32;
            } else {
                arguments[from] = number;
            }
            callWithAll(m, x, arguments, from + 1);
        }
    }

    private static void call(Method m, OrderedPeers x, Object[] arguments) throws Exception {
        try {
            m.invoke(x, arguments);
            CHECK.holds("", true);
        } catch (InvocationTargetException thrown) {
            CHECK.holds(m.getName() + java.util.Arrays.toString(arguments) + " throws " + thrown.getCause(), false);
        }
    }
}
