import java.util.ArrayList;
import java.util.List;
import java.util.function.Supplier;
import java.util.function.ToIntFunction;

/** The boundary cases of the answers: of BAD, STATE, FULL, NONE the first that fits; what is refused changes nothing. */
public final class AnswersBoundaryTest {
    private static final int BAD = OrderedPeers.BAD, STATE = OrderedPeers.STATE;
    private static final int FULL = OrderedPeers.FULL, NONE = OrderedPeers.NONE;
    private static final int LOW = Integer.MIN_VALUE, HIGH = Integer.MAX_VALUE;

    public static void main(String[] args) throws Exception {
        Sentences.run(AnswersBoundaryTest.class);
    }

    /** 32 PEERS, of which PEER 0 (NAME 0) is IN. */
    private static OrderedPeers fullOfPeers() {
        OrderedPeers x = new OrderedPeers();
        for (int p = 0; p < 32; p++) {
            x.peer(p, p);
        }
        x.join(0, 0);
        return x;
    }

    /** 160 ASKS with 15 KEYS; PEER 0 is IN, 1 is OUT. */
    private static OrderedPeers fullOfAsks() {
        OrderedPeers x = Made.in(10, 0);
        x.peer(20, 0);
        for (int k = 0; k < 160; k++) {
            x.put(0, k % 15, k);
        }
        return x;
    }

    /** 16 KEYS; PEER 0 is IN, 1 is OUT. */
    private static OrderedPeers fullOfKeys() {
        OrderedPeers x = Made.in(10, 0);
        x.peer(20, 0);
        for (int key = 0; key < 16; key++) {
            x.put(0, key, key + 1);
        }
        return x;
    }

    /**
     * PEERS 0, 1 are IN, 2 is OUT, 3 COMING: a PUT, GET, FIND, SPAN and a GIVE with a PAIR are
     * under way, as messages 0 to 4.
     */
    private static OrderedPeers joining() {
        OrderedPeers x = Made.in(10, 0, 20, 1);
        x.peer(30, 2);
        x.drawn(15);
        x.put(0, 12, 5);
        x.put(0, 17, 6);
        x.all(1000);
        x.put(0, 18, 7);
        x.get(1, 12);
        x.join(3, 0);
        x.find(0, 20);
        x.span(0, 10, 20);
        x.deliver(2);
        return x;
    }

    /** As joining(), but that 3 has come and 1 is GOING. */
    private static OrderedPeers leaving() {
        OrderedPeers x = joining();
        Made.endChangeBehind(x, 4);
        x.leave(1);
        return x;
    }

    // ---- the first that fits

    @Says(in = "Terms", value = "the first that fits")
    static void badIsAheadOfFull(Check check) {
        OrderedPeers x = fullOfPeers();
        check.due("peer: the NAME is there", x.peer(31, 0), BAD);
        check.due("peer: bits", x.peer(99, 256), BAD);
        check.due("peer", x.peer(99, 0), FULL);
        check.due("drawn: the NAME is there", x.drawn(31), BAD);
        check.due("drawn", x.drawn(99), FULL);
        OrderedPeers asks = fullOfAsks();
        check.due("find: no PEER", asks.find(2, 0), BAD);
        check.due("span: no PEER", asks.span(2, 0, 0), BAD);
        check.due("span: b below a", asks.span(0, 0, -1), BAD);
        check.due("tally: no PEER", asks.tally(2, 0, 0), BAD);
        check.due("tally: b below a", asks.tally(0, 0, -1), BAD);
        check.due("put: no PEER", asks.put(2, 0, 0), BAD);
        check.due("get: no PEER", asks.get(2, 0), BAD);
        check.due("put of a 17th KEY: no PEER", fullOfKeys().put(2, 99, 0), BAD);
    }

    @Says(in = "Terms", value = "the first that fits")
    static void badIsAheadOfState(Check check) {
        OrderedPeers x = joining();
        check.due("COMING", x.told(3, 0), 1);
        check.due("a GIVE", x.message(4, 0), 6);
        check.due("join: no u", x.join(4, 0), BAD);
        check.due("join: no v", x.join(2, 4), BAD);
        check.due("join of one that is IN: no v", x.join(0, -1), BAD);
        check.due("leave: no u", x.leave(4), BAD);
        check.due("again: no u", x.again(4, 0), BAD);
        check.due("again: bits", x.again(0, 256), BAD);
        check.due("again of one that is OUT: bits", x.again(2, -1), BAD);
        check.due("span from one that is OUT: b below a", x.span(2, 1, 0), BAD);
        check.due("tally from one that is COMING: b below a", x.tally(3, 1, 0), BAD);
        check.due("deliver: no message", x.deliver(5), BAD);
        check.due("beside one without PLACES: side", x.beside(2, 0, 2), BAD);
        check.due("beside one without PLACES: level", x.beside(2, 9, 0), BAD);
        OrderedPeers nobodyIn = Made.out(10, 0, 20, 0);
        check.due("join, nobody being IN: no v", nobodyIn.join(0, 2), BAD);
    }

    @Says(in = "Terms", value = "the first that fits")
    static void stateIsAheadOfFull(Check check) {
        OrderedPeers asks = fullOfAsks();
        check.due("find", asks.find(1, 0), STATE);
        check.due("span", asks.span(1, 0, 0), STATE);
        check.due("tally", asks.tally(1, 0, 0), STATE);
        check.due("put", asks.put(1, 0, 0), STATE);
        check.due("get", asks.get(1, 0), STATE);
        check.due("put of a 17th KEY", fullOfKeys().put(1, 99, 0), STATE);
    }

    @Says(in = "Terms", value = "the first that fits")
    static void badAndStateAreAheadOfNone(Check check) {
        OrderedPeers x = joining();
        check.due("passed: no ASK", x.passed(6, -1), BAD);
        check.due("noted: no ASK", x.noted(6, -1), BAD);
        check.due("noted: another ASK", x.noted(4, 99), BAD);
        check.due("row: no PEER", x.row(4, 0, -1), BAD);
        check.due("row: level", x.row(0, 9, 99), BAD);
        check.due("beside: side", x.beside(0, 0, -1), BAD);
        check.due("beside: no PLACE, not nobody", x.beside(2, 0, 0), STATE);
        check.due("why, being sound", Made.in(10, 0).why(3), BAD);
        check.due("row, nobody being IN", Made.out(10, 0).row(0, -1, 0), BAD);
    }

    // ---- what is refused changes nothing

    @Says(in = "Terms", value = "what is refused changes nothing")
    static void refusedInAnEmptyObject(Check check) {
        Supplier<OrderedPeers> made = OrderedPeers::new;
        changesNothing(check, "peer", made, x -> x.peer(1, 256), BAD);
        changesNothing(check, "join", made, x -> x.join(0, 0), BAD);
        changesNothing(check, "leave", made, x -> x.leave(0), BAD);
        changesNothing(check, "again", made, x -> x.again(0, 0), BAD);
        changesNothing(check, "find", made, x -> x.find(0, 0), BAD);
        changesNothing(check, "put", made, x -> x.put(0, 0, 0), BAD);
        changesNothing(check, "deliver", made, x -> x.deliver(0), BAD);
        changesNothing(check, "all", made, x -> x.all(1001), BAD);
    }

    @Says(in = "Terms", value = "what is refused changes nothing")
    static void refusedAsOneJoins(Check check) {
        Supplier<OrderedPeers> made = AnswersBoundaryTest::joining;
        changesNothing(check, "peer: NAME", made, x -> x.peer(15, 0), BAD);
        changesNothing(check, "peer: bits", made, x -> x.peer(16, -1), BAD);
        changesNothing(check, "drawn", made, x -> x.drawn(10), BAD);
        changesNothing(check, "join", made, x -> x.join(2, 0), STATE);
        changesNothing(check, "join of itself", made, x -> x.join(3, 0), STATE);
        changesNothing(check, "join: no v", made, x -> x.join(2, 9), BAD);
        changesNothing(check, "leave", made, x -> x.leave(0), STATE);
        changesNothing(check, "leave: COMING", made, x -> x.leave(3), STATE);
        changesNothing(check, "again", made, x -> x.again(0, 7), STATE);
        changesNothing(check, "again: bits", made, x -> x.again(0, 256), BAD);
        changesNothing(check, "deliver: a PUT", made, x -> x.deliver(0), STATE);
        changesNothing(check, "deliver: a GET", made, x -> x.deliver(1), STATE);
        changesNothing(check, "deliver: none", made, x -> x.deliver(HIGH), BAD);
        changesNothing(check, "all", made, x -> x.all(-1), BAD);
        changesNothing(check, "worst", made, OrderedPeers::worst, STATE);
    }

    @Says(in = "Terms", value = "what is refused changes nothing")
    static void refusedAsOneLeaves(Check check) {
        Supplier<OrderedPeers> made = AnswersBoundaryTest::leaving;
        changesNothing(check, "join", made, x -> x.join(2, 0), STATE);
        changesNothing(check, "leave", made, x -> x.leave(1), STATE);
        changesNothing(check, "leave of another", made, x -> x.leave(0), STATE);
        changesNothing(check, "again", made, x -> x.again(1, 7), STATE);
        changesNothing(check, "find: GOING", made, x -> x.find(1, 0), STATE);
        changesNothing(check, "span: OUT", made, x -> x.span(2, 0, 0), STATE);
        changesNothing(check, "span: b below a", made, x -> x.span(0, HIGH, LOW), BAD);
        changesNothing(check, "tally: b below a", made, x -> x.tally(0, 0, -1), BAD);
        changesNothing(check, "tally: OUT", made, x -> x.tally(2, 0, 0), STATE);
        changesNothing(check, "put: a new KEY, OUT", made, x -> x.put(2, 99, 0), STATE);
        changesNothing(check, "put: a new KEY, no PEER", made, x -> x.put(9, 99, 0), BAD);
        changesNothing(check, "get: GOING", made, x -> x.get(1, 12), STATE);
        changesNothing(check, "deliver: a PUT", made, x -> x.deliver(0), STATE);
        changesNothing(check, "all", made, x -> x.all(LOW), BAD);
    }

    @Says(in = "Terms", value = "what is refused changes nothing")
    static void refusedAtRest(Check check) {
        Supplier<OrderedPeers> made = () -> Made.in(10, 0, 20, 0);
        changesNothing(check, "join of one that is IN", made, x -> x.join(1, 0), STATE);
        changesNothing(check, "leave of none", made, x -> x.leave(2), BAD);
        changesNothing(check, "again: bits", made, x -> x.again(1, 256), BAD);
        Supplier<OrderedPeers> out = () -> Made.out(10, 0, 20, 0);
        changesNothing(check, "the first by way of another", out, x -> x.join(0, 1), STATE);
        changesNothing(check, "leave of one that is OUT", out, x -> x.leave(0), STATE);
        changesNothing(check, "again of one that is OUT", out, x -> x.again(0, 9), STATE);
        changesNothing(check, "worst of nobody", out, OrderedPeers::worst, NONE);
    }

    @Says(in = "Terms", value = "what is refused changes nothing")
    static void refusedBecauseItIsFull(Check check) {
        changesNothing(check, "a 33rd PEER", AnswersBoundaryTest::fullOfPeers, x -> x.peer(99, 7), FULL);
        changesNothing(check, "a 33rd PEER, drawn", AnswersBoundaryTest::fullOfPeers, x -> x.drawn(99), FULL);
        changesNothing(check, "a 17th KEY", AnswersBoundaryTest::fullOfKeys, x -> x.put(0, 99, 7), FULL);
        OrderedPeers x = fullOfAsks();
        check.due("a 161st ASK, of a 16th KEY", x.put(0, 99, 7), FULL);
        check.due("a 161st ASK", x.span(0, 1, 2), FULL);
        check.due("ASKS", x.count(3), 160);
        check.due("messages", x.count(2), 160);
        check.due("KEYS", x.count(7), 15);
        check.due("all come", x.all(1000), 160);
        check.due("PAIRS", x.told(0, 4), 15);
        check.due("the last VALUE", x.kept(0, 9), 159);
    }

    /**
     * Of two objects with the same calls one is asked for what is refused: all that can be told of both is
     * the same, at once and after all messages have come and one more PEER was drawn.
     */
    private static void changesNothing(Check check, String what, Supplier<OrderedPeers> made, ToIntFunction<OrderedPeers> refused, int answer) {
        OrderedPeers x = made.get();
        check.due(what, refused.applyAsInt(x), answer);
        same(check, what + ", at once", allThatIsTold(x), allThatIsTold(made.get()));
        OrderedPeers later = made.get();
        refused.applyAsInt(later);
        same(check, what + ", later", allThatIsTold(goneOn(later)), allThatIsTold(goneOn(made.get())));
    }

    private static OrderedPeers goneOn(OrderedPeers x) {
        x.all(1000);
        x.drawn(1000);
        return x;
    }

    private static void same(Check check, String what, List<Long> one, List<Long> other) {
        check.due(what + ": so many answers", one.size(), other.size());
        check.holds(what + ": the same answers", one.equals(other));
    }

    private static List<Long> allThatIsTold(OrderedPeers x) {
        List<Long> told = new ArrayList<>();
        for (int what = 0; what <= 8; what++) {
            told.add((long) x.count(what));
        }
        for (int what = 0; what <= 2; what++) {
            told.add((long) x.why(what));
        }
        int peers = x.count(0);
        for (int p = 0; p < peers; p++) {
            tellPeer(x, p, told);
        }
        int asks = x.count(3);
        for (int k = 0; k < asks; k++) {
            tellAsk(x, k, told);
        }
        int messages = x.count(2);
        for (int i = 0; i < messages; i++) {
            for (int what = 0; what <= 3; what++) {
                told.add((long) x.message(i, what));
            }
        }
        return told;
    }

    private static void tellPeer(OrderedPeers x, int p, List<Long> told) {
        for (int what = 0; what <= 4; what++) {
            told.add((long) x.told(p, what));
        }
        int places = x.told(p, 2);
        for (int level = 0; level < places; level++) {
            told.add((long) x.beside(p, level, 0));
            told.add((long) x.beside(p, level, 1));
        }
        int pairs = x.told(p, 4);
        for (int i = 0; i < pairs; i++) {
            told.add((long) x.key(p, i));
            told.add(x.kept(p, i));
        }
    }

    private static void tellAsk(OrderedPeers x, int k, List<Long> told) {
        for (int what = 0; what <= 4; what++) {
            told.add((long) x.ask(k, what));
        }
        told.add(x.value(k));
        int way = x.ask(k, 4);
        for (int i = 0; i < way; i++) {
            told.add((long) x.passed(k, i));
        }
        told.add((long) x.noted(k, 0));
        told.add((long) x.noted(k, 1));
    }
}
