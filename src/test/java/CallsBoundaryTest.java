import java.math.BigInteger;

/** The boundary cases that the promises 1 to 30 name, call by call. */
public final class CallsBoundaryTest {
    private static final int BAD = OrderedPeers.BAD, STATE = OrderedPeers.STATE;
    private static final int FULL = OrderedPeers.FULL, NONE = OrderedPeers.NONE;
    private static final int LOW = Integer.MIN_VALUE, HIGH = Integer.MAX_VALUE;
    private static final int LEFT = 0, RIGHT = 1;
    private static final int COMING = 1, IN = 2, GOING = 3;

    public static void main(String[] args) throws Exception {
        Sentences.runForEveryPromise(CallsBoundaryTest.class);
    }

    /** Numbers that are none of 0 to many - 1. */
    private static int[] outside(int many) {
        return new int[] {LOW, -1, many, many + 1, HIGH};
    }

    /** PEER 0 is IN, 1 is OUT, 2 COMING (a CHANGE is on). */
    private static OrderedPeers oneComing() {
        OrderedPeers x = Made.out(10, 0, 20, 0, 30, 0);
        x.join(0, 0);
        x.join(2, 0);
        return x;
    }

    /** PEER 0 is IN, 1 is OUT, 2 GOING (a CHANGE is on). */
    private static OrderedPeers oneGoing() {
        OrderedPeers x = oneComing();
        x.all(1000);
        x.leave(2);
        return x;
    }

    // ---- 1 to 4

    @Says(in = "Promise 1", value = "No PEERS, no ASKS, no messages; THE DRAW is 1.")
    static void aNewObjectIsEmpty(Check check) {
        OrderedPeers x = new OrderedPeers();
        for (int what = 0; what <= 8; what++) {
            check.due("count " + what, x.count(what), 0);
        }
        check.due("no PEER", x.told(0, 0), BAD);
        check.due("no ASK", x.ask(0, 0), BAD);
        check.due("no message", x.message(0, 0), BAD);
        check.due("nothing comes", x.all(1000), 0);
        check.due("sound", x.sound(), 1);
        check.due("nobody IN", x.keeper(0), NONE);
    }

    @Says(in = "Promise 1", value = "THE DRAW is 1.")
    static void theFirstDraw(Check check) {
        OrderedPeers first = new OrderedPeers();
        first.drawn(5);
        OrderedPeers seeded = new OrderedPeers();
        seeded.seed(1);
        seeded.drawn(5);
        check.due("bits 16 to 23 of 1103527590", first.told(0, 1), 1103527590 / 65536 % 256);
        check.due("as if seeded with 1", first.told(0, 1), seeded.told(0, 1));
    }

    @Says(in = "Promise 2", value = "BAD: the NAME is there, bits are not 0 to 255")
    static void bitsOfAPeer(Check check) {
        OrderedPeers x = new OrderedPeers();
        for (int bits : outside(256)) {
            check.due("bits " + bits, x.peer(1, bits), BAD);
        }
        check.due("none was made", x.count(0), 0);
        check.due("bits 0", x.peer(1, 0), 0);
        check.due("bits 255", x.peer(2, 255), 1);
        check.due("0", x.told(0, 1), 0);
        check.due("255", x.told(1, 1), 255);
    }

    @Says(in = "Promise 2", value = "BAD: the NAME is there")
    static void theNameIsThereWhateverThePeerIs(Check check) {
        OrderedPeers coming = oneComing();
        check.due("IN", coming.peer(10, 1), BAD);
        check.due("OUT", coming.peer(20, 1), BAD);
        check.due("COMING", coming.peer(30, 1), BAD);
        check.due("GOING", oneGoing().peer(30, 1), BAD);
        check.due("next to it", coming.peer(29, 1), 3);
    }

    @Says(in = "Promise 2", value = "FULL.")
    static void the33rdPeer(Check check) {
        OrderedPeers x = new OrderedPeers();
        for (int i = 0; i < 32; i++) {
            check.due("peer " + i, x.peer(i, 0), i);
        }
        check.due("the 33rd", x.peer(32, 0), FULL);
        check.due("its NAME is not there", x.name(32), 0);
        check.due("32 PEERS", x.count(0), 32);
    }

    @Says(in = "Promise 3", value = "THE DRAW, an int, becomes 1103515245 times it and 12345 (wrapping); a PEER with bits 16 to 23 of it: its number.")
    static void theDrawWraps(Check check) {
        int[] seeds = {1, 0, -1, 7, LOW, HIGH, LOW + 1, HIGH - 1, 65536, -65536};
        for (int seed : seeds) {
            OrderedPeers x = new OrderedPeers();
            x.seed(seed);
            BigInteger draw = BigInteger.valueOf(seed);
            for (int i = 0; i < 20; i++) {
                draw = draw.multiply(BigInteger.valueOf(1103515245)).add(BigInteger.valueOf(12345));
                check.due("number", x.drawn(i), i);
                check.due("BITS " + i + " of seed " + seed, x.told(i, 1), draw.shiftRight(16).and(BigInteger.valueOf(255)).intValue());
            }
        }
    }

    @Says(in = "Promise 3", value = "BAD; FULL (THE DRAW stays in both).")
    static void theDrawStaysInBad(Check check) {
        OrderedPeers x = new OrderedPeers();
        OrderedPeers other = new OrderedPeers();
        x.drawn(1);
        other.drawn(1);
        check.due("the NAME is there", x.drawn(1), BAD);
        check.due("once more", x.drawn(1), BAD);
        check.due("the next one", x.drawn(2), 1);
        other.drawn(2);
        check.due("as if nothing had been", x.told(1, 1), other.told(1, 1));
    }

    @Says(in = "Promise 3", value = "BAD; FULL (THE DRAW stays in both).")
    static void drawnWhenThereAre32(Check check) {
        OrderedPeers x = new OrderedPeers();
        for (int i = 0; i < 32; i++) {
            check.due("drawn " + i, x.drawn(i), i);
        }
        int last = x.told(31, 1);
        check.due("the 33rd", x.drawn(32), FULL);
        check.due("a NAME that is there", x.drawn(31), BAD);
        check.due("32 PEERS", x.count(0), 32);
        check.due("the last one's BITS", x.told(31, 1), last);
    }

    @Says(in = "Promise 4", value = "THE DRAW becomes this: 1.")
    static void anyIntIsASeed(Check check) {
        int[] seeds = {0, -1, LOW, HIGH};
        OrderedPeers x = new OrderedPeers();
        for (int i = 0; i < seeds.length; i++) {
            check.due("seed " + seeds[i], x.seed(seeds[i]), 1);
            x.drawn(i);
            int draw = (int) (1103515245L * seeds[i] + 12345L);
            check.due("BITS", x.told(i, 1), draw >>> 16 & 255);
        }
        check.due("0 stands for itself", x.told(0, 1), 0);
    }

    // ---- 5 to 7: changes

    @Says(in = "Promise 5", value = "BAD; STATE: a CHANGE is on, u is not OUT, v is not IN (if nobody is IN, v is to be u).")
    static void joinOfNoPeer(Check check) {
        OrderedPeers x = Made.out(10, 0, 20, 0);
        for (int p : outside(2)) {
            check.due("u " + p, x.join(p, 0), BAD);
            check.due("v " + p, x.join(0, p), BAD);
            check.due("both " + p, x.join(p, p), BAD);
        }
        check.due("nobody has come", x.count(1), 0);
    }

    @Says(in = "Promise 5", value = "v is not IN (if nobody is IN, v is to be u)")
    static void joinWhenNobodyIsIn(Check check) {
        OrderedPeers x = Made.out(10, 0, 20, 0);
        check.due("v is another", x.join(0, 1), STATE);
        check.due("v is u", x.join(0, 0), 1);
        check.due("v is u, somebody being IN", x.join(1, 1), STATE);
        x.leave(0);
        check.due("v has left", x.join(1, 0), STATE);
        check.due("v is u, nobody being IN", x.join(1, 1), 1);
        check.due("IN", x.told(1, 0), IN);
    }

    @Says(in = "Promise 5", value = "STATE: a CHANGE is on, u is not OUT, v is not IN")
    static void joinInTheWrongState(Check check) {
        OrderedPeers x = Made.in(10, 0, 20, 0);
        x.peer(30, 0);
        x.peer(40, 0);
        check.due("u is IN", x.join(1, 0), STATE);
        check.due("u is IN, v is u", x.join(1, 1), STATE);
        check.due("v is OUT", x.join(2, 3), STATE);
        check.due("join", x.join(2, 0), 1);
        check.due("a CHANGE is on", x.join(3, 0), STATE);
        check.due("u is COMING", x.join(2, 0), STATE);
        x.all(1000);
        check.due("it is over", x.join(3, 2), 1);
    }

    @Says(in = "Promise 6", value = "BAD; STATE: a CHANGE is on, u is not IN.")
    static void leaveRefused(Check check) {
        OrderedPeers x = oneComing();
        for (int p : outside(3)) {
            check.due("u " + p, x.leave(p), BAD);
        }
        check.due("COMING", x.leave(2), STATE);
        check.due("OUT", x.leave(1), STATE);
        check.due("IN, a CHANGE being on", x.leave(0), STATE);
        x.all(1000);
        check.due("OUT, no CHANGE being on", x.leave(1), STATE);
        check.due("IN", x.leave(0), 1);
        check.due("GOING", x.leave(0), STATE);
    }

    @Says(in = "Promise 7", value = "BAD: also bits; STATE likewise.")
    static void againRefused(Check check) {
        OrderedPeers x = oneComing();
        for (int p : outside(3)) {
            check.due("u " + p, x.again(p, 0), BAD);
        }
        for (int bits : outside(256)) {
            check.due("bits " + bits, x.again(0, bits), BAD);
            check.due("OUT, bits " + bits, x.again(1, bits), BAD);
        }
        check.due("COMING", x.again(2, 0), STATE);
        check.due("IN, a CHANGE being on", x.again(0, 0), STATE);
        x.all(1000);
        check.due("OUT, no CHANGE being on", x.again(1, 0), STATE);
        check.due("bits 255", x.again(0, 255), 1);
        x.all(1000);
        check.due("bits 0", x.again(0, 0), 1);
        x.all(1000);
        check.due("sound", x.sound(), 1);
    }

    // ---- 8 to 12: asks are made

    @Says(in = "Promise 8", value = "BAD; STATE: the PEER is not IN; FULL.")
    static void findRefused(Check check) {
        OrderedPeers x = oneComing();
        for (int p : outside(3)) {
            check.due("from " + p, x.find(p, 0), BAD);
        }
        check.due("OUT", x.find(1, 0), STATE);
        check.due("COMING", x.find(2, 0), STATE);
        check.due("GOING", oneGoing().find(2, 0), STATE);
        check.due("IN, a CHANGE being on", x.find(0, LOW), 0);
        check.due("any number", x.find(0, HIGH), 1);
        Made.makeAllAsks(x, 0);
        check.due("the last", x.ask(159, 0), 0);
        check.due("the 161st", x.find(0, 0), FULL);
        check.due("160", x.count(3), 160);
    }

    @Says(in = "Promise 9", value = "A SPAN likewise. BAD: also b below a.")
    static void spanRefused(Check check) {
        OrderedPeers x = oneComing();
        for (int p : outside(3)) {
            check.due("from " + p, x.span(p, 0, 0), BAD);
        }
        int[][] below = {{0, -1}, {HIGH, LOW}, {HIGH, HIGH - 1}, {LOW + 1, LOW}};
        for (int[] one : below) {
            check.due(one[0] + " to " + one[1], x.span(0, one[0], one[1]), BAD);
            check.due("OUT, " + one[0] + " to " + one[1], x.span(1, one[0], one[1]), BAD);
        }
        check.due("OUT", x.span(1, 0, 0), STATE);
        check.due("COMING", x.span(2, 0, 0), STATE);
        check.due("GOING", oneGoing().span(2, 0, 0), STATE);
        check.due("b is a", x.span(0, 7, 7), 0);
        check.due("the widest", x.span(0, LOW, HIGH), 1);
        Made.makeAllAsks(x, 0);
        check.due("the 161st", x.span(0, 0, 0), FULL);
    }

    @Says(in = "Promise 10", value = "A COUNT likewise.")
    static void tallyRefused(Check check) {
        OrderedPeers x = oneComing();
        for (int p : outside(3)) {
            check.due("from " + p, x.tally(p, 0, 0), BAD);
        }
        int[][] below = {{0, -1}, {HIGH, LOW}, {HIGH, HIGH - 1}, {LOW + 1, LOW}};
        for (int[] one : below) {
            check.due(one[0] + " to " + one[1], x.tally(0, one[0], one[1]), BAD);
            check.due("OUT, " + one[0] + " to " + one[1], x.tally(1, one[0], one[1]), BAD);
        }
        check.due("OUT", x.tally(1, 0, 0), STATE);
        check.due("COMING", x.tally(2, 0, 0), STATE);
        check.due("GOING", oneGoing().tally(2, 0, 0), STATE);
        check.due("b is a", x.tally(0, 7, 7), 0);
        check.due("the widest", x.tally(0, LOW, HIGH), 1);
        Made.makeAllAsks(x, 0);
        check.due("the 161st", x.tally(0, 0, 0), FULL);
    }

    @Says(in = "Promise 11", value = "A PUT likewise.")
    static void putRefused(Check check) {
        OrderedPeers x = oneComing();
        for (int p : outside(3)) {
            check.due("from " + p, x.put(p, 0, 0), BAD);
        }
        check.due("OUT", x.put(1, 0, 0), STATE);
        check.due("COMING", x.put(2, 0, 0), STATE);
        check.due("GOING", oneGoing().put(2, 0, 0), STATE);
        check.due("no KEY was put", x.count(7), 0);
        check.due("the least KEY and VALUE", x.put(0, LOW, Long.MIN_VALUE), 0);
        check.due("the greatest", x.put(0, HIGH, Long.MAX_VALUE), 1);
        Made.makeAllAsks(x, 0);
        check.due("the 161st, of an old KEY", x.put(0, LOW, 0), FULL);
        check.due("the 161st, of a new KEY", x.put(0, 0, 0), FULL);
        check.due("which is not put", x.count(7), 2);
    }

    @Says(in = "Promise 11", value = "FULL: also the 17th KEY.")
    static void the17thKey(Check check) {
        OrderedPeers x = Made.in(10, 0);
        for (int key = 0; key < 16; key++) {
            check.due("put " + key, x.put(0, key, 0), key);
        }
        check.due("the 17th, none having come", x.put(0, 16, 0), FULL);
        x.all(1000);
        check.due("the 17th, all having come", x.put(0, -1, 0), FULL);
        check.due("no ASK for it", x.count(3), 16);
        check.due("no message for it", x.count(2), 0);
        check.due("16 KEYS", x.count(7), 16);
        check.due("the first KEY again", x.put(0, 0, 7), 16);
        check.due("the last KEY again", x.put(0, 15, 8), 17);
        x.all(1000);
        check.due("the first", x.kept(0, 0), 7);
        check.due("the last", x.kept(0, 15), 8);
    }

    @Says(in = "Promise 12", value = "A GET likewise.")
    static void getRefused(Check check) {
        OrderedPeers x = oneComing();
        for (int p : outside(3)) {
            check.due("from " + p, x.get(p, 0), BAD);
        }
        check.due("OUT", x.get(1, 0), STATE);
        check.due("COMING", x.get(2, 0), STATE);
        check.due("GOING", oneGoing().get(2, 0), STATE);
        check.due("the least KEY", x.get(0, LOW), 0);
        check.due("the greatest KEY", x.get(0, HIGH), 1);
        Made.makeAllAsks(x, 0);
        check.due("the 161st", x.get(0, 0), FULL);
    }

    @Says(in = "Promise 12", value = "A GET likewise.")
    static void aGetPutsNoKey(Check check) {
        OrderedPeers x = Made.in(10, 0);
        for (int key = 0; key < 16; key++) {
            x.put(0, key, 0);
        }
        check.due("a GET of a 17th KEY", x.get(0, 16), 16);
        check.due("16 KEYS", x.count(7), 16);
        x.all(1000);
        check.due("not found", x.ask(16, 2), NONE);
    }

    // ---- 13 to 16: asks are told

    @Says(in = "Promise 13", value = "2 its answer (0 until then), 3 PASSES, 4 how long its WAY is. BAD.")
    static void askAtTheEdges(Check check) {
        OrderedPeers x = Made.five();
        x.find(0, 50);
        x.find(0, 50);
        for (int k : outside(2)) {
            check.due("ask " + k, x.ask(k, 0), BAD);
        }
        for (int what : outside(5)) {
            check.due("what " + what, x.ask(1, what), BAD);
        }
        for (int what = 0; what <= 4; what++) {
            check.due("as it was made, " + what, x.ask(0, what), 0);
        }
        x.deliver(0);
        check.due("on its way, its answer", x.ask(0, 2), 0);
        check.due("on its way, DONE", x.ask(0, 1), 0);
        x.all(1000);
        check.due("DONE", x.ask(0, 1), 1);
        check.due("its answer", x.ask(0, 2), 4);
        check.due("PASSES", x.ask(0, 3), 3);
        check.due("its WAY", x.ask(0, 4), 3);
    }

    @Says(in = "Promise 13", value = "2 its answer (0 until then)")
    static void aSpanHasNoAnswerUntilItIsDone(Check check) {
        OrderedPeers x = Made.five();
        x.span(0, 10, 50);
        x.tally(0, 10, 50);
        x.all(8);
        check.due("four are noted", x.noted(0, 3), 3);
        check.due("no answer yet", x.ask(0, 2), 0);
        check.due("no count yet", x.ask(1, 2), 0);
        x.all(2);
        check.due("its answer", x.ask(0, 2), 5);
        check.due("its count", x.ask(1, 2), 5);
    }

    @Says(in = "Promise 14", value = "PEER i of the WAY of an ASK. BAD; NONE.")
    static void passedAtTheEdges(Check check) {
        OrderedPeers x = Made.five();
        x.find(4, 10);
        check.due("nothing yet", x.passed(0, 0), NONE);
        x.all(1000);
        check.due("the first", x.passed(0, 0), 4);
        check.due("the last", x.passed(0, 3), 0);
        for (int i : outside(4)) {
            check.due("i " + i, x.passed(0, i), NONE);
        }
        for (int k : outside(1)) {
            check.due("ask " + k, x.passed(k, 0), BAD);
            check.due("ask and i " + k, x.passed(k, k), BAD);
        }
    }

    @Says(in = "Promise 15", value = "PEER i that a SPAN has noted. BAD: also another ASK; NONE.")
    static void notedAtTheEdges(Check check) {
        OrderedPeers x = Made.five();
        x.span(0, 20, 30);
        x.find(0, 10);
        x.tally(0, 10, 10);
        x.put(0, 10, 0);
        x.get(0, 10);
        check.due("nothing yet", x.noted(0, 0), NONE);
        x.all(1000);
        check.due("the first", x.noted(0, 0), 1);
        check.due("the last", x.noted(0, 1), 2);
        for (int i : outside(2)) {
            check.due("i " + i, x.noted(0, i), NONE);
        }
        for (int k : outside(5)) {
            check.due("ask " + k, x.noted(k, 0), BAD);
            check.due("ask and i " + k, x.noted(k, k), BAD);
        }
        for (int k = 1; k < 5; k++) {
            check.due("another ASK", x.noted(k, 0), BAD);
            check.due("another ASK, i -1", x.noted(k, -1), BAD);
        }
    }

    @Says(in = "Promise 16", value = "The VALUE that a GET has found. 0: there is none such, none yet.")
    static void valueOfWhatHasNone(Check check) {
        OrderedPeers x = Made.in(10, 0);
        x.put(0, 10, -7);
        x.find(0, 10);
        x.span(0, 10, 10);
        x.tally(0, 10, 10);
        x.get(0, 11);
        x.get(0, 10);
        check.due("none yet", x.value(5), 0);
        x.all(1000);
        check.due("found", x.value(5), -7);
        for (int k = 0; k < 5; k++) {
            check.due("of ask " + k, x.value(k), 0);
        }
        for (int k : outside(6)) {
            check.due("ask " + k, x.value(k), 0);
        }
        x.get(0, 10);
        x.leave(0);
        x.all(1000);
        check.due("a GET that was LOST", x.value(6), 0);
        check.due("what was found stays", x.value(5), -7);
    }

    // ---- 17 to 19: messages

    @Says(in = "Promise 17", value = "BAD; STATE: a PUT, GET, while a CHANGE is on.")
    static void deliverRefused(Check check) {
        OrderedPeers x = Made.in(10, 0, 20, 0);
        check.due("no message at all", x.deliver(0), BAD);
        x.put(0, 10, 0);
        x.get(0, 10);
        x.leave(1);
        for (int i : outside(11)) {
            check.due("message " + i, x.deliver(i), BAD);
        }
        check.due("a PUT", x.deliver(0), STATE);
        check.due("a GET", x.deliver(1), STATE);
        check.due("the last LINK", x.deliver(10), 7);
        check.due("none in its stead", x.deliver(10), BAD);
        x.all(8);
        check.due("no CHANGE is on: the GET", x.deliver(1), 4);
        check.due("no CHANGE is on: the PUT", x.deliver(0), 3);
    }

    @Says(in = "Promise 17", value = "its sort (as of ASKS; 5 JOIN, 6 GIVE, 7 LINK, 8 SEEK, 9 TELL, 10 HAND)")
    static void eachSortOfMessage(Check check) {
        OrderedPeers x = Made.in(10, 0);
        x.peer(20, 1);
        x.find(0, 10);
        x.span(0, 10, 10);
        x.tally(0, 10, 10);
        x.put(0, 20, 1);
        x.get(0, 20);
        for (int sort = 0; sort <= 4; sort++) {
            check.due("an ASK's", x.deliver(0), sort);
        }
        x.join(1, 0);
        for (int sort = 5; sort <= 9; sort++) {
            check.due("a join's", x.deliver(0), sort);
        }
        x.leave(1);
        check.due("a leave's", x.deliver(0), 7);
        check.due("HAND", x.deliver(0), 10);
    }

    @Says(in = "Promise 18", value = "n times (0 to 1000) the first message that can be taken comes to its PEER, as long as there is one: how many did. BAD.")
    static void allAtTheEdges(Check check) {
        OrderedPeers x = Made.chain(32);
        for (int k = 0; k < 40; k++) {
            x.find(31, 0);
        }
        for (int n : outside(1001)) {
            check.due("n " + n, x.all(n), BAD);
        }
        check.due("n 0", x.all(0), 0);
        check.due("nothing has come", x.ask(0, 3), 0);
        check.due("n 1", x.all(1), 1);
        check.due("one has come", x.ask(0, 3), 1);
        check.due("the next has not", x.ask(1, 3), 0);
        check.due("n 1000", x.all(1000), 1000);
        check.due("those that are left", x.all(1000), 40 * 32 - 1001);
        check.due("none is left", x.all(1000), 0);
        check.due("all are DONE", x.count(4), 40);
    }

    @Says(in = "Promise 18", value = "the first message that can be taken")
    static void allPassesOverPutsAndGets(Check check) {
        OrderedPeers x = Made.in(10, 0, 20, 1);
        x.put(0, 10, 1);
        x.get(0, 10);
        x.find(0, 10);
        x.leave(1);
        check.due("the FIND", x.all(1), 1);
        check.due("it is DONE", x.ask(2, 1), 1);
        check.due("the LINK", x.all(1), 1);
        check.due("the CHANGE is over", x.count(5), 0);
        check.due("both have waited", x.count(2), 2);
        check.due("the PUT is the first again", x.all(1), 1);
        check.due("it is DONE too", x.ask(0, 1), 1);
        check.due("the GET is not", x.ask(1, 1), 0);
    }

    @Says(in = "Promise 19", value = "2 its ASK (NONE), 3 its LEVEL (LINK, SEEK, TELL: that of the PLACE, of which it SEEKS; NONE). BAD.")
    static void messageAtTheEdges(Check check) {
        OrderedPeers x = Made.in(10, 0);
        x.peer(20, 1);
        check.due("none at all", x.message(0, 0), BAD);
        x.put(0, 20, 1);
        x.all(1);
        x.find(0, 10);
        x.join(1, 0);
        for (int i : outside(2)) {
            check.due("message " + i, x.message(i, 0), BAD);
        }
        for (int what : outside(4)) {
            check.due("what " + what, x.message(0, what), BAD);
        }
        int[] ofFind = {0, 0, 1, NONE};
        for (int what = 0; what <= 3; what++) {
            check.due("the FIND's " + what, x.message(0, what), ofFind[what]);
        }
        int[][] ofChange = {{5, 0, NONE, NONE}, {6, 1, NONE, NONE}, {7, 0, NONE, 0}, {8, 0, NONE, 0}, {9, 1, NONE, 1}};
        for (int[] told : ofChange) {
            for (int what = 0; what <= 3; what++) {
                check.due("of sort " + told[0] + ", " + what, x.message(1, what), told[what]);
            }
            x.deliver(1);
        }
        x.leave(1);
        int[] ofHand = {10, 0, NONE, NONE};
        for (int what = 0; what <= 3; what++) {
            check.due("the HAND's " + what, x.message(2, what), ofHand[what]);
        }
    }

    // ---- 20 to 26: told

    @Says(in = "Promise 20", value = "Of a PEER: 0 as what it is (0 to 3), 1 BITS, 2 how many PLACES, 3 LOAD, 4 PAIRS. BAD.")
    static void toldAtTheEdges(Check check) {
        OrderedPeers x = Made.out(10, 255);
        int[] atFirst = {0, 255, 0, 0, 0};
        for (int what = 0; what <= 4; what++) {
            check.due("at first, " + what, x.told(0, what), atFirst[what]);
        }
        for (int what : outside(5)) {
            check.due("what " + what, x.told(0, what), BAD);
        }
        for (int p : outside(1)) {
            check.due("peer " + p, x.told(p, 0), BAD);
        }
        check.due("COMING", oneComing().told(2, 0), COMING);
        check.due("GOING", oneGoing().told(2, 0), GOING);
        check.due("PLACES of one that is GOING", oneGoing().told(2, 2), 9);
    }

    @Says(in = "Promise 21", value = "The NAME of a PEER. 0 also: there is none such.")
    static void nameAtTheEdges(Check check) {
        OrderedPeers x = Made.out(LOW, 0, HIGH, 0, 0, 0, -1, 0);
        check.due("the least", x.name(0), LOW);
        check.due("the greatest", x.name(1), HIGH);
        check.due("0 itself", x.name(2), 0);
        check.due("the last", x.name(3), -1);
        for (int p : outside(4)) {
            check.due("peer " + p, x.name(p), 0);
        }
        check.due("none at all", new OrderedPeers().name(0), 0);
    }

    @Says(in = "Promise 22", value = "LEFT (side 0), RIGHT (1) of a PLACE. BAD; STATE: there is no PLACE of that LEVEL; NONE: nobody.")
    static void besideAtTheEdges(Check check) {
        OrderedPeers x = Made.in(10, 0, 20, 0, 30, 1);
        x.peer(40, 0);
        for (int p : outside(4)) {
            check.due("peer " + p, x.beside(p, 0, LEFT), BAD);
        }
        for (int level : outside(9)) {
            check.due("level " + level, x.beside(0, level, LEFT), BAD);
        }
        for (int side : outside(2)) {
            check.due("side " + side, x.beside(0, 0, side), BAD);
            check.due("no PLACE, side " + side, x.beside(3, 0, side), BAD);
        }
        check.due("LEVEL 0", x.beside(1, 0, LEFT), 0);
        check.due("LEVEL 0, RIGHT", x.beside(1, 0, RIGHT), 2);
        check.due("LEVEL 8", x.beside(0, 8, RIGHT), 1);
        check.due("nobody", x.beside(0, 8, LEFT), NONE);
        check.due("a PLACE with nobody", x.beside(2, 1, RIGHT), NONE);
        check.due("no PLACE above it", x.beside(2, 2, RIGHT), STATE);
        check.due("no PLACE, LEVEL 8", x.beside(2, 8, LEFT), STATE);
        check.due("OUT", x.beside(3, 0, RIGHT), STATE);
        check.due("COMING", oneComing().beside(2, 0, LEFT), STATE);
        check.due("GOING", oneGoing().beside(2, 0, LEFT), 0);
    }

    @Says(in = "Promise 23", value = "KEY i, by KEYS, of the PAIRS of a PEER. 0 also: there is none such.")
    static void keyAtTheEdges(Check check) {
        OrderedPeers x = sixteenPairs();
        for (int i = 0; i < 16; i++) {
            check.due("key " + i, x.key(0, i), i == 0 ? LOW : i == 15 ? HIGH : i - 8);
        }
        for (int i : outside(16)) {
            check.due("i " + i, x.key(0, i), 0);
        }
        for (int p : outside(2)) {
            check.due("peer " + p, x.key(p, 0), 0);
        }
        check.due("one without PAIRS", x.key(1, 0), 0);
    }

    @Says(in = "Promise 24", value = "Its VALUE likewise.")
    static void keptAtTheEdges(Check check) {
        OrderedPeers x = sixteenPairs();
        for (int i = 0; i < 16; i++) {
            check.due("kept " + i, x.kept(0, i), 3L * x.key(0, i));
        }
        for (int i : outside(16)) {
            check.due("i " + i, x.kept(0, i), 0);
        }
        for (int p : outside(2)) {
            check.due("peer " + p, x.kept(p, 0), 0);
        }
        check.due("one without PAIRS", x.kept(1, 0), 0);
    }

    /** PEER 0 has as many PAIRS as there can be, put from the greatest KEY to the least; PEER 1 has none. */
    private static OrderedPeers sixteenPairs() {
        OrderedPeers x = Made.in(0, 0);
        x.peer(1, 0);
        x.put(0, HIGH, 3L * HIGH);
        for (int i = 14; i > 0; i--) {
            x.put(0, i - 8, 3L * (i - 8));
        }
        x.put(0, LOW, 3L * LOW);
        x.all(1000);
        return x;
    }

    @Says(in = "Promise 25", value = "The KEEPER of a KEY. NONE: nobody is IN.")
    static void keeperWhenNobodyIsIn(Check check) {
        OrderedPeers x = new OrderedPeers();
        check.due("no PEERS", x.keeper(0), NONE);
        x.peer(10, 0);
        check.due("one that is OUT", x.keeper(10), NONE);
        x.join(0, 0);
        check.due("below it", x.keeper(LOW), 0);
        check.due("above it", x.keeper(HIGH), 0);
        x.leave(0);
        check.due("it has left", x.keeper(10), NONE);
        check.due("one COMING keeps nothing", oneComing().keeper(30), 0);
        check.due("one GOING keeps nothing", oneGoing().keeper(30), 0);
    }

    @Says(in = "Promise 26", value = "PEER i of THE ROW of a LEVEL of a PEER. BAD; NONE.")
    static void rowAtTheEdges(Check check) {
        OrderedPeers x = Made.out(10, 0, 20, 1);
        check.due("nobody is IN", x.row(0, 0, 0), NONE);
        check.due("nobody is IN, LEVEL 9", x.row(0, 9, 0), BAD);
        x.join(0, 0);
        for (int p : outside(2)) {
            check.due("peer " + p, x.row(p, 0, 0), BAD);
            check.due("peer and i " + p, x.row(p, 0, p), BAD);
        }
        for (int level : outside(9)) {
            check.due("level " + level, x.row(0, level, 0), BAD);
            check.due("level and i " + level, x.row(0, level, level), BAD);
        }
        for (int i : outside(1)) {
            check.due("i " + i, x.row(0, 0, i), NONE);
        }
        check.due("LEVEL 0 of one that is OUT", x.row(1, 0, 0), 0);
        check.due("LEVEL 1 of one that is OUT", x.row(1, 1, 0), NONE);
        check.due("LEVEL 8", x.row(0, 8, 0), 0);
    }

    // ---- 27 to 30

    @Says(in = "Promise 27", value = "Whether it is SOUND (1, 0).")
    static void soundAtTheEdges(Check check) {
        OrderedPeers x = new OrderedPeers();
        check.due("no PEERS", x.sound(), 1);
        x.peer(10, 0);
        x.peer(20, 0);
        check.due("nobody IN", x.sound(), 1);
        x.join(0, 0);
        check.due("one alone", x.sound(), 1);
        x.join(1, 0);
        x.all(1);
        check.due("one COMING", x.sound(), 1);
        for (int i = 0; i < 25; i++) {
            x.all(1);
            check.due("not yet, " + i, x.sound(), 0);
        }
        x.all(1);
        check.due("two", x.sound(), 1);
    }

    private static void why(Check check, OrderedPeers x, int peer, int level, int which) {
        check.due("the PEER", x.why(0), peer);
        check.due("the LEVEL", x.why(1), level);
        check.due("of that", x.why(2), which);
        check.due("sound", x.sound(), 0);
    }

    @Says(in = "Promise 28", value = "NONE: it is SOUND. BAD.")
    static void whyWhenItIsSound(Check check) {
        OrderedPeers x = Made.in(10, 0, 20, 0);
        for (int what = 0; what <= 2; what++) {
            check.due("no PEERS, " + what, new OrderedPeers().why(what), NONE);
            check.due("two, " + what, x.why(what), NONE);
        }
        for (int what : outside(3)) {
            check.due("what " + what, x.why(what), BAD);
        }
        x.leave(1);
        for (int what : outside(3)) {
            check.due("not sound, what " + what, x.why(what), BAD);
        }
    }

    @Says(in = "Promise 28", value = "The first that is not as it is to be, by PEERS, then LEVELS")
    static void whyByPeersThenLevels(Check check) {
        OrderedPeers x = Made.in(10, 0, 20, 1, 30, 0);
        x.leave(2);
        why(check, x, 0, 1, 1);
        x = Made.in(10, 0, 20, 0);
        x.leave(1);
        why(check, x, 0, 0, 1);
        x.all(1000);
        x.join(1, 0);
        x.all(2);
        check.due("SEEK", x.deliver(1), 8);
        check.due("TELL", x.deliver(1), 9);
        check.due("LINK of 1", x.deliver(1), 7);
        why(check, x, 0, 0, 1);
    }

    @Says(in = "Promise 28", value = "2 of that 0 the LEFT, 1 the RIGHT (looked at behind it), 2 whether there is a PLACE (ahead of both)")
    static void whyOfThat(Check check) {
        OrderedPeers x = Made.in(20, 0);
        x.peer(10, 0);
        x.join(1, 0);
        x.all(2);
        why(check, x, 0, 0, 0);
        x.deliver(0);
        why(check, x, 0, 1, 0);
        x = Made.in(20, 0, 10, 0);
        x.again(0, 255);
        why(check, x, 0, 1, 2);
    }

    @Says(in = "Promise 29", value = "The greatest number of PASSES that a FIND would have, from any PEER that is IN, of any NAME of one, if nothing else happened.")
    static void worstOfAChain(Check check) {
        check.due("alone", Made.in(10, 0).worst(), 1);
        check.due("two", Made.in(10, 0, 20, 1).worst(), 2);
        OrderedPeers x = Made.chain(32);
        check.due("one NAME at a time", x.worst(), 32);
        check.due("nothing was sent", x.count(2), 0);
        check.due("no ASK was made", x.count(3), 0);
        x.leave(31);
        x.all(1000);
        check.due("of those that are IN", x.worst(), 31);
    }

    @Says(in = "Promise 29", value = "from any PEER that is IN, of any NAME of one")
    static void worstWithoutThoseThatAreOut(Check check) {
        OrderedPeers x = Made.in(10, 0, 20, 1, 30, 1, 40, 0, 15, 2);
        x.leave(4);
        x.all(1000);
        check.due("those that are IN", x.worst(), 3);
        check.due("a FIND of the NAME of one that is OUT", x.find(3, 15), 0);
        x.all(1000);
        check.due("would have more", x.ask(0, 3), 4);
    }

    @Says(in = "Promise 29", value = "STATE: a CHANGE is on; NONE: nobody is IN.")
    static void worstRefused(Check check) {
        OrderedPeers x = new OrderedPeers();
        check.due("no PEERS", x.worst(), NONE);
        x.peer(10, 0);
        check.due("one that is OUT", x.worst(), NONE);
        check.due("join", oneComing().worst(), STATE);
        check.due("leave", oneGoing().worst(), STATE);
        OrderedPeers two = Made.in(10, 0, 20, 0);
        two.again(0, 1);
        check.due("again", two.worst(), STATE);
        x.join(0, 0);
        x.find(0, 10);
        check.due("an ASK is no CHANGE", x.worst(), 1);
        x.leave(0);
        check.due("the last has left", x.worst(), NONE);
    }

    @Says(in = "Promise 30", value = "5 the CHANGE that is on (0 none, 1 join, 2 leave, 3 again), 6 its messages, 7 KEYS that were ever put, 8 ASKS that were LOST. BAD.")
    static void countAtTheEdges(Check check) {
        OrderedPeers x = oneComing();
        for (int what : outside(9)) {
            check.due("what " + what, x.count(what), BAD);
        }
        x.find(0, 10);
        int[] joining = {3, 1, 2, 1, 0, 1, 1, 0, 0};
        for (int what = 0; what <= 8; what++) {
            check.due("as one is COMING, " + what, x.count(what), joining[what]);
        }
        x.all(1000);
        x.put(0, 10, 1);
        x.put(0, 10, 2);
        x.leave(2);
        int[] leaving = {3, 1, 11, 3, 1, 2, 9, 1, 0};
        for (int what = 0; what <= 8; what++) {
            check.due("as one is GOING, " + what, x.count(what), leaving[what]);
        }
        x.all(9);
        x.leave(0);
        x.all(1000);
        int[] nobodyIn = {3, 0, 0, 3, 3, 0, 0, 1, 2};
        for (int what = 0; what <= 8; what++) {
            check.due("as nobody is IN, " + what, x.count(what), nobodyIn[what]);
        }
    }

    @Says(in = "Promise 30", value = "5 the CHANGE that is on (0 none, 1 join, 2 leave, 3 again)")
    static void changesThatAreOverAtOnce(Check check) {
        OrderedPeers x = Made.out(10, 0, 20, 0);
        x.join(0, 0);
        check.due("join", x.count(5), 0);
        x.again(0, 9);
        check.due("again", x.count(5), 0);
        x.leave(0);
        check.due("leave", x.count(5), 0);
        x.join(0, 0);
        x.join(1, 0);
        x.all(1000);
        x.again(0, 1);
        check.due("again of two", x.count(5), 3);
    }
}
