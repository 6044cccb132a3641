import java.util.ArrayList;
import java.util.List;
import java.util.Random;
import java.util.function.ToLongFunction;

/**
 * Random runs of calls, messages delivered in any order, on OrderedPeers and on PlainModel:
 * every answer is to be the same. And what has to hold without any model: with no CHANGE
 * on all is SOUND, and each PAIR is with the KEEPER of its KEY.
 *
 * <p>PlainModel chooses the calls and says what is due. As nothing is promised behind the 512th
 * call, a run leaves room for some looks, and is played anew until all has been looked at.
 */
public final class AgainstModelTest {
    private static final int RUNS = 1000;
    private static final int CALLS = 512;
    private static final int FEWEST_LOOKS = 100;
    private static final int[] EDGES = {-1, Integer.MIN_VALUE, Integer.MAX_VALUE, 9, 32, 40, 160, 255, 256};

    /** A call, and what it is to answer. */
    private record Due(String what, ToLongFunction<OrderedPeers> call, long answer) {
    }

    private final Check check;
    private final Random random;
    private final PlainModel model = new PlainModel();
    private final List<Due> calls = new ArrayList<>();
    private final List<Due> looks = new ArrayList<>();
    private final int most;
    private final int nameRange;
    private final int bitMask;
    private final int eager;

    private AgainstModelTest(Check check, int run) {
        this.check = check;
        this.random = new Random(run);
        this.most = 1 + random.nextInt(CALLS - FEWEST_LOOKS);
        this.nameRange = run % 3 == 0 ? 20 : 200;
        this.bitMask = new int[] {0, 1, 3, 7, 255}[run % 5];
        this.eager = run % 7;
    }

    public static void main(String[] args) {
        Check check = new Check();
        for (int run = 0; run < RUNS && check.isClean(); run++) {
            check.about("run " + run);
            AgainstModelTest test = new AgainstModelTest(check, run);
            test.chooseCalls();
            test.chooseLooks();
            test.play();
        }
        check.end();
    }

    private void play() {
        int room = CALLS - calls.size();
        for (int from = 0; from < looks.size() && check.isClean(); from += room) {
            OrderedPeers x = new OrderedPeers();
            ask(x, calls);
            ask(x, looks.subList(from, Math.min(from + room, looks.size())));
        }
    }

    private void ask(OrderedPeers x, List<Due> some) {
        for (Due one : some) {
            check.due(one.what, one.call.applyAsLong(x), one.answer);
        }
    }

    private void call(String what, ToLongFunction<OrderedPeers> call, long answer) {
        calls.add(new Due("call " + calls.size() + ", " + what, call, answer));
    }

    private void look(String what, ToLongFunction<OrderedPeers> call, long answer) {
        looks.add(new Due("after " + calls.size() + " calls, " + what, call, answer));
    }

    // ---- the calls of a run

    private void chooseCalls() {
        while (calls.size() < most) {
            step();
            if (model.count(5) == 0) {
                check.due("sound at rest", model.sound(), 1);
                pairsAreKept();
            }
        }
    }

    private void pairsAreKept() {
        for (int p = 0; p < model.count(0); p++) {
            for (int i = 0; i < model.told(p, 4); i++) {
                check.due("keeper of " + model.key(p, i), model.keeper(model.key(p, i)), p);
            }
        }
    }

    private int odd(int usual) {
        return random.nextInt(40) == 0 ? EDGES[random.nextInt(EDGES.length)] : usual;
    }

    private int peer() {
        return odd(random.nextInt(Math.max(1, model.count(0))));
    }

    private int peerIn() {
        for (int tries = 0; tries < 20; tries++) {
            int p = peer();
            if (model.told(p, 0) == 2) {
                return p;
            }
        }
        return peer();
    }

    private int number() {
        return odd(random.nextInt(nameRange + 20) - 10);
    }

    private int key() {
        return odd(10 * random.nextInt(18) - 10);
    }

    private void step() {
        int sort = random.nextInt(20);
        if (sort < 3) {
            make();
        } else if (sort < 9) {
            changeSomething();
        } else if (sort < 13) {
            askSomething();
        } else {
            moveOn();
        }
    }

    private void make() {
        int name = odd(random.nextInt(nameRange));
        int bits = odd(random.nextInt(256) & bitMask);
        int v = random.nextInt();
        switch (random.nextInt(4)) {
            case 0 -> call("drawn " + name, x -> x.drawn(name), model.drawn(name));
            case 1 -> call("seed " + v, x -> x.seed(v), model.seed(v));
            default -> call("peer " + name + ", " + bits, x -> x.peer(name, bits), model.peer(name, bits));
        }
    }

    private void changeSomething() {
        int u = peer();
        int v = model.count(1) == 0 ? u : peerIn();
        int bits = odd(random.nextInt(256) & bitMask);
        switch (random.nextInt(8)) {
            case 0, 1 -> call("leave " + u, x -> x.leave(u), model.leave(u));
            case 2 -> call("again " + u + ", " + bits, x -> x.again(u, bits), model.again(u, bits));
            default -> call("join " + u + ", " + v, x -> x.join(u, v), model.join(u, v));
        }
    }

    private void askSomething() {
        int from = peerIn();
        int a = number();
        int b = random.nextInt(10) == 0 ? a - 1 : odd(a + random.nextInt(nameRange));
        int key = key();
        long v = random.nextLong();
        switch (random.nextInt(6)) {
            case 0 -> call("find " + from + ", " + a, x -> x.find(from, a), model.find(from, a));
            case 1, 2 -> call("span " + from + ", " + a + ", " + b, x -> x.span(from, a, b), model.span(from, a, b));
            case 3 -> call("tally " + from + ", " + a + ", " + b, x -> x.tally(from, a, b), model.tally(from, a, b));
            case 4 -> call("put " + from + ", " + key, x -> x.put(from, key, v), model.put(from, key, v));
            default -> call("get " + from + ", " + key, x -> x.get(from, key), model.get(from, key));
        }
    }

    private void moveOn() {
        int n = odd(random.nextInt(random.nextInt(6) < eager ? 40 : 4));
        if (random.nextInt(3) == 0) {
            call("all " + n, x -> x.all(n), model.all(n));
        } else if (random.nextInt(3) == 0) {
            finishTheChange();
        } else {
            deliver(odd(random.nextInt(Math.max(1, model.count(2)))));
        }
    }

    private void deliver(int i) {
        call("deliver " + i, x -> x.deliver(i), model.deliver(i));
    }

    /** Leaves the ASKS where they are, so that they find their PEERS gone. */
    private void finishTheChange() {
        while (calls.size() < most && model.count(6) > 0) {
            int i = random.nextInt(model.count(2));
            if (model.message(i, 2) == PlainModel.NONE) {
                deliver(i);
            }
        }
    }

    // ---- all that is told

    private void chooseLooks() {
        for (int i = -1; i < 10; i++) {
            int what = i;
            look("count " + what, x -> x.count(what), model.count(what));
            look("why " + what, x -> x.why(what), model.why(what));
        }
        look("sound", x -> x.sound(), model.sound());
        look("worst", x -> x.worst(), model.worst());
        for (int p = -1; p <= model.count(0); p++) {
            lookAtPeer(p);
        }
        for (int k = -1; k <= model.count(3); k++) {
            lookAtAsk(k);
        }
        for (int i = -1; i <= model.count(2); i++) {
            lookAtMessage(i);
        }
    }

    private void lookAtPeer(int p) {
        int key = key();
        look("name " + p, x -> x.name(p), model.name(p));
        look("keeper " + key, x -> x.keeper(key), model.keeper(key));
        for (int n = -1; n < 6; n++) {
            int what = n;
            look("told " + p + ", " + what, x -> x.told(p, what), model.told(p, what));
        }
        for (int n = -1; n < 17; n++) {
            int i = n;
            look("key " + p + ", " + i, x -> x.key(p, i), model.key(p, i));
            look("kept " + p + ", " + i, x -> x.kept(p, i), model.kept(p, i));
        }
        for (int level = -1; level < 10; level++) {
            lookAtLevel(p, level);
        }
    }

    private void lookAtLevel(int p, int level) {
        int i = random.nextInt(8) - 1;
        look("row " + p + ", " + level + ", " + i, x -> x.row(p, level, i), model.row(p, level, i));
        for (int n = -1; n < 3; n++) {
            int side = n;
            look("beside " + p + ", " + level + ", " + side, x -> x.beside(p, level, side), model.beside(p, level, side));
        }
    }

    private void lookAtAsk(int k) {
        look("value " + k, x -> x.value(k), model.value(k));
        for (int n = -1; n < 6; n++) {
            int what = n;
            look("ask " + k + ", " + what, x -> x.ask(k, what), model.ask(k, what));
        }
        for (int n = -1; n < 42; n++) {
            int i = n;
            look("passed " + k + ", " + i, x -> x.passed(k, i), model.passed(k, i));
            look("noted " + k + ", " + i, x -> x.noted(k, i), model.noted(k, i));
        }
    }

    private void lookAtMessage(int i) {
        for (int n = -1; n < 5; n++) {
            int what = n;
            look("message " + i + ", " + what, x -> x.message(i, what), model.message(i, what));
        }
    }
}
