import java.util.Random;

/**
 * Random runs of calls, messages delivered in any order, on OrderedPeers and on PlainModel:
 * every answer is to be the same. And what has to hold without any model: with no CHANGE
 * on all is SOUND, and each PAIR is with the KEEPER of its KEY.
 */
public final class AgainstModelTest {
    private static final int RUNS = 300;
    private static final int CALLS = 512;
    private static final int[] EDGES = {-1, Integer.MIN_VALUE, Integer.MAX_VALUE, 9, 32, 40, 160, 255, 256};

    private final Check check;
    private final int run;
    private final Random random;
    private final OrderedPeers one = new OrderedPeers();
    private final PlainModel two = new PlainModel();
    private final int nameRange;
    private final int bitMask;
    private final int eager;

    private AgainstModelTest(Check check, int run) {
        this.check = check;
        this.run = run;
        this.random = new Random(run);
        this.nameRange = run % 3 == 0 ? 20 : 200;
        this.bitMask = new int[] {0, 1, 3, 7, 255}[run % 5];
        this.eager = run % 7;
    }

    public static void main(String[] args) {
        Check check = new Check();
        for (int run = 0; run < RUNS && check.isClean(); run++) {
            new AgainstModelTest(check, run).calls();
        }
        check.end();
    }

    private void calls() {
        for (int i = 0; i < CALLS && check.isClean(); i++) {
            step();
            if (i % 32 == 0) {
                lookAtAll();
            }
            if (one.count(5) == 0) {
                same("sound() at rest", one.sound(), 1);
                pairsAreKept();
            }
        }
        lookAtAll();
    }

    private void same(String what, long got, long want) {
        check.due("run " + run + ": " + what, got, want);
    }

    private int odd(int usual) {
        return random.nextInt(40) == 0 ? EDGES[random.nextInt(EDGES.length)] : usual;
    }

    private int peer() {
        return odd(random.nextInt(Math.max(1, one.count(0))));
    }

    private int peerIn() {
        for (int tries = 0; tries < 20; tries++) {
            int p = peer();
            if (one.told(p, 0) == 2) {
                return p;
            }
        }
        return peer();
    }

    private int number() {
        return odd(random.nextInt(nameRange + 20) - 10);
    }

    private int key() {
        return odd(10 * random.nextInt(18) - 10);
    }

    private void step() {
        int sort = random.nextInt(20);
        if (sort < 3 && one.count(0) < 33) {
            make();
        } else if (sort < 9) {
            changeSomething();
        } else if (sort < 13) {
            askSomething();
        } else {
            moveOn();
        }
    }

    private void make() {
        int name = odd(random.nextInt(nameRange));
        int bits = odd(random.nextInt(256) & bitMask);
        int v = random.nextInt();
        switch (random.nextInt(4)) {
            case 0 -> same("drawn " + name, one.drawn(name), two.drawn(name));
            case 1 -> same("seed " + v, one.seed(v), two.seed(v));
            default -> same("peer " + name, one.peer(name, bits), two.peer(name, bits));
        }
    }

    private void changeSomething() {
        int u = peer();
        int v = one.count(1) == 0 ? u : peerIn();
        int bits = odd(random.nextInt(256) & bitMask);
        switch (random.nextInt(8)) {
            case 0, 1 -> same("leave " + u, one.leave(u), two.leave(u));
            case 2 -> same("again " + u, one.again(u, bits), two.again(u, bits));
            default -> same("join " + u + ", " + v, one.join(u, v), two.join(u, v));
        }
    }

    private void askSomething() {
        int from = peerIn();
        int a = number();
        int b = random.nextInt(10) == 0 ? a - 1 : odd(a + random.nextInt(nameRange));
        int key = key();
        long v = random.nextLong();
        switch (random.nextInt(6)) {
            case 0 -> same("find", one.find(from, a), two.find(from, a));
            case 1, 2 -> same("span", one.span(from, a, b), two.span(from, a, b));
            case 3 -> same("tally", one.tally(from, a, b), two.tally(from, a, b));
            case 4 -> same("put", one.put(from, key, v), two.put(from, key, v));
            default -> same("get", one.get(from, key), two.get(from, key));
        }
    }

    private void moveOn() {
        int n = odd(random.nextInt(random.nextInt(6) < eager ? 40 : 4));
        int i = odd(random.nextInt(Math.max(1, one.count(2))));
        if (random.nextInt(3) == 0) {
            same("all " + n, one.all(n), two.all(n));
        } else if (random.nextInt(3) == 0) {
            finishTheChange();
        } else {
            same("deliver " + i, one.deliver(i), two.deliver(i));
        }
    }

    /** Leaves the ASKS where they are, so that they find their PEERS gone. */
    private void finishTheChange() {
        for (int tries = 0; tries < 2000 && one.count(6) > 0; tries++) {
            int i = random.nextInt(one.count(2));
            if (one.message(i, 2) == OrderedPeers.NONE) {
                same("deliver " + i, one.deliver(i), two.deliver(i));
            }
        }
    }

    private void pairsAreKept() {
        for (int p = 0; p < one.count(0); p++) {
            for (int i = 0; i < one.told(p, 4); i++) {
                same("keeper of " + one.key(p, i), one.keeper(one.key(p, i)), p);
            }
        }
    }

    private void lookAtAll() {
        for (int what = -1; what < 10; what++) {
            same("count " + what, one.count(what), two.count(what));
            same("why " + what, one.why(what), two.why(what));
        }
        same("sound", one.sound(), two.sound());
        same("worst", one.worst(), two.worst());
        lookAtPeers();
        lookAtAsks();
        lookAtMessages();
    }

    private void lookAtPeers() {
        for (int p = -1; p <= one.count(0); p++) {
            same("name " + p, one.name(p), two.name(p));
            int key = key();
            same("keeper " + key, one.keeper(key), two.keeper(key));
            for (int what = -1; what < 6; what++) {
                same("told " + p + ", " + what, one.told(p, what), two.told(p, what));
            }
            for (int i = -1; i < 17; i++) {
                same("key " + p + ", " + i, one.key(p, i), two.key(p, i));
                same("kept " + p + ", " + i, one.kept(p, i), two.kept(p, i));
            }
            for (int level = -1; level < 10; level++) {
                int i = random.nextInt(8) - 1;
                same("row " + p + ", " + level + ", " + i, one.row(p, level, i), two.row(p, level, i));
                for (int side = -1; side < 3; side++) {
                    same("beside " + p + ", " + level + ", " + side, one.beside(p, level, side), two.beside(p, level, side));
                }
            }
        }
    }

    private void lookAtAsks() {
        for (int k = -1; k <= one.count(3); k++) {
            same("value " + k, one.value(k), two.value(k));
            for (int what = -1; what < 6; what++) {
                same("ask " + k + ", " + what, one.ask(k, what), two.ask(k, what));
            }
            for (int i = -1; i < 42; i++) {
                same("passed " + k + ", " + i, one.passed(k, i), two.passed(k, i));
                same("noted " + k + ", " + i, one.noted(k, i), two.noted(k, i));
            }
        }
    }

    private void lookAtMessages() {
        for (int i = -1; i <= one.count(2); i++) {
            for (int what = -1; what < 5; what++) {
                same("message " + i + ", " + what, one.message(i, what), two.message(i, what));
            }
        }
    }
}
