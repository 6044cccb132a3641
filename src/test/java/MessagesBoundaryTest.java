/** The boundary cases that the second part of "Terms" names: messages, ASKS, AIMING, LOST, SPANS. */
public final class MessagesBoundaryTest {
    private static final int BAD = OrderedPeers.BAD, STATE = OrderedPeers.STATE;
    private static final int FULL = OrderedPeers.FULL, NONE = OrderedPeers.NONE;
    private static final int LOW = Integer.MIN_VALUE, HIGH = Integer.MAX_VALUE;
    private static final int COMING = 1, GOING = 3;

    public static void main(String[] args) throws Exception {
        Sentences.run(MessagesBoundaryTest.class);
    }

    /** Lets an ASK that was just made run to its end and looks at its WAY, and at its answer. */
    private static void runs(Check check, OrderedPeers x, int k, int answer, int... way) {
        x.all(1000);
        String what = "ask " + k;
        check.due(what + " is DONE", x.ask(k, 1), 1);
        check.due(what + ", its answer", x.ask(k, 2), answer);
        check.due(what + ", its PASSES", x.ask(k, 3), way.length);
        for (int i = 0; i < way.length; i++) {
            check.due(what + ", its WAY " + i, x.passed(k, i), way[i]);
        }
    }

    private static void isLost(Check check, OrderedPeers x, int k) {
        check.due("DONE", x.ask(k, 1), 1);
        check.due("its answer", x.ask(k, 2), NONE);
        check.due("LOST", x.count(8), 1);
        check.due("no message is under way", x.count(2), 0);
    }

    // ---- messages

    @Says(in = "Terms", value = "MESSAGES are under way, in order as they were sent, each to a PEER")
    static void messagesAreInOrder(Check check) {
        OrderedPeers x = Made.five();
        for (int k = 0; k < 3; k++) {
            x.find(k, 50);
        }
        x.leave(4);
        for (int k = 0; k < 3; k++) {
            check.due("ask of message " + k, x.message(k, 2), k);
            check.due("peer of message " + k, x.message(k, 1), k);
        }
        check.due("the CHANGE's behind them", x.message(3, 0), 7);
    }

    @Says(in = "Terms", value = "deliver() takes any of them away and lets it come to that PEER (its LOAD becomes 1 more), perhaps to be sent on (as the last one)")
    static void theFirstTheLastAndOneBetween(Check check) {
        for (int taken = 0; taken < 3; taken++) {
            OrderedPeers x = Made.five();
            int load = x.told(1, 3);
            for (int k = 0; k < 3; k++) {
                x.find(1, 50);
            }
            check.due("message " + taken, x.deliver(taken), 0);
            check.due("LOAD", x.told(1, 3), load + 1);
            check.due("as many as before", x.count(2), 3);
            check.due("the last one", x.message(2, 2), taken);
            check.due("sent on", x.message(2, 1), 2);
            check.due("the first one", x.message(0, 2), taken == 0 ? 1 : 0);
            check.due("the second one", x.message(1, 2), taken == 2 ? 1 : 2);
            check.due("no fourth", x.deliver(3), BAD);
        }
    }

    @Says(in = "Terms", value = "(its LOAD becomes 1 more)")
    static void loadOfOneThatIsOut(Check check) {
        OrderedPeers x = Made.in(10, 0);
        check.due("none at first", x.told(0, 3), 0);
        x.find(0, 1);
        x.all(1);
        x.find(0, 1);
        x.leave(0);
        check.due("it stays as it leaves", x.told(0, 3), 1);
        x.all(1);
        check.due("1 more, though it is OUT", x.told(0, 3), 2);
        x.join(0, 0);
        check.due("it stays as it joins", x.told(0, 3), 2);
    }

    // ---- asks

    @Says(in = "Terms", value = "ASKS (160): FIND, SPAN, COUNT, PUT, GET, are made with a message to a PEER")
    static void a161stAskOfEachSort(Check check) {
        OrderedPeers x = Made.in(10, 0);
        for (int k = 0; k < 160; k++) {
            int number = switch (k % 5) {
                case 0 -> x.find(0, k);
                case 1 -> x.span(0, k, k);
                case 2 -> x.tally(0, k, k);
                case 3 -> x.put(0, 7, k);
                default -> x.get(0, 7);
            };
            check.due("ask " + k, number, k);
        }
        check.due("the last is there", x.ask(159, 0), 4);
        check.due("none behind it", x.ask(160, 0), BAD);
        check.due("all have come", x.all(1000), 160);
        check.due("a FIND, all being DONE", x.find(0, 1), FULL);
        check.due("a SPAN", x.span(0, 1, 1), FULL);
        check.due("a COUNT", x.tally(0, 1, 1), FULL);
        check.due("a PUT of an old KEY", x.put(0, 7, 1), FULL);
        check.due("a GET", x.get(0, 7), FULL);
        check.due("160 as before", x.count(3), 160);
        check.due("nothing was sent", x.count(2), 0);
    }

    @Says(in = "Terms", value = "are made with a message to a PEER, and are DONE once")
    static void doneOnce(Check check) {
        OrderedPeers x = Made.five();
        x.find(0, 50);
        check.due("not yet", x.count(4), 0);
        x.all(1);
        check.due("not on its way", x.ask(0, 1), 0);
        x.all(1000);
        check.due("once", x.count(4), 1);
        check.due("no message", x.count(2), 0);
        check.due("nothing comes any more", x.all(1000), 0);
        check.due("still once", x.count(4), 1);
    }

    @Says(in = "Terms", value = "how often its message came to a PEER; the first 40 PEERS are its WAY")
    static void theFirst40AreItsWay(Check check) {
        OrderedPeers x = Made.chain(21);
        int[] passes = {39, 40, 41};
        for (int k = 0; k < passes.length; k++) {
            x.span(20, 0, 18 + k);
            x.all(1000);
            check.due("PASSES", x.ask(k, 3), passes[k]);
            check.due("its WAY", x.ask(k, 4), Math.min(passes[k], 40));
            check.due("the 39th", x.passed(k, 38), 18);
            check.due("the 40th", x.passed(k, 39), k == 0 ? NONE : 19);
            check.due("no 41st", x.passed(k, 40), NONE);
        }
    }

    @Says(in = "Terms", value = "how often its message came to a PEER")
    static void noPassesAtFirst(Check check) {
        OrderedPeers x = Made.in(10, 0);
        x.find(0, 10);
        check.due("PASSES", x.ask(0, 3), 0);
        check.due("its WAY", x.ask(0, 4), 0);
        check.due("nobody", x.passed(0, 0), NONE);
        x.all(1);
        check.due("one, where it was made", x.ask(0, 3), 1);
    }

    // ---- AIMING

    @Says(in = "Terms", value = "if u's NAME is not above x, it is sent on to u's RIGHT of the highest LEVEL at which it has one whose NAME is not above x; if there is none, it is THERE")
    static void aimingToTheRight(Check check) {
        OrderedPeers x = Made.five();
        runs(check, x, x.find(0, 10), 0, 0);
        runs(check, x, x.find(0, 19), 0, 0);
        runs(check, x, x.find(0, 20), 1, 0, 1);
        runs(check, x, x.find(0, 39), 2, 0, 1, 2);
        runs(check, x, x.find(0, 40), 3, 0, 3);
        runs(check, x, x.find(0, 49), 3, 0, 3);
        runs(check, x, x.find(0, 50), 4, 0, 3, 4);
        runs(check, x, x.find(4, HIGH), 4, 4);
    }

    @Says(in = "Terms", value = "If u's NAME is above x: to u's LEFT of the highest LEVEL at which it has one whose NAME is not below x; without such to its LEFT of LEVEL 0; without that it is THERE.")
    static void aimingToTheLeft(Check check) {
        OrderedPeers x = Made.five();
        runs(check, x, x.find(4, 49), 3, 4, 3);
        runs(check, x, x.find(4, 40), 3, 4, 3);
        runs(check, x, x.find(4, 30), 2, 4, 2);
        runs(check, x, x.find(4, 31), 2, 4, 3, 2);
        runs(check, x, x.find(3, 10), 0, 3, 0);
        runs(check, x, x.find(3, 11), 0, 3, 2, 1, 0);
        runs(check, x, x.find(3, 9), 0, 3, 0);
        runs(check, x, x.find(0, 9), 0, 0);
        runs(check, x, x.find(0, LOW), 0, 0);
    }

    @Says(in = "Terms", value = "of the highest LEVEL at which it has one whose NAME is not above x")
    static void theHighestLevelIs8(Check check) {
        OrderedPeers x = Made.in(10, 0, 20, 128, 30, 0);
        runs(check, x, x.find(0, 30), 2, 0, 2);
        runs(check, x, x.find(0, 29), 1, 0, 1);
        runs(check, x, x.find(2, 10), 0, 2, 0);
        runs(check, x, x.find(2, 11), 0, 2, 1, 0);
    }

    @Says(in = "Terms", value = "whose NAME is not above x")
    static void aimingAtTheOutermostNumbers(Check check) {
        OrderedPeers x = Made.in(LOW, 0, 0, 0, HIGH, 0);
        runs(check, x, x.find(0, HIGH), 2, 0, 1, 2);
        runs(check, x, x.find(0, HIGH - 1), 1, 0, 1);
        runs(check, x, x.find(0, -1), 0, 0);
        runs(check, x, x.find(2, LOW), 0, 2, 1, 0);
        runs(check, x, x.find(2, LOW + 1), 0, 2, 1, 0);
    }

    @Says(in = "Terms", value = "to the LEFT that it had at LEVEL 0 as it last became OUT, else to the RIGHT")
    static void backFromOneThatIsOut(Check check) {
        OrderedPeers x = Made.in(10, 0, 20, 1, 30, 2);
        x.find(1, 99);
        x.leave(1);
        Made.endChangeBehind(x, 1);
        x.deliver(0);
        check.due("to its LEFT, though it has had a RIGHT", x.message(0, 1), 0);
        runs(check, x, 0, 2, 1, 0, 2);
        x.find(0, 5);
        x.leave(0);
        Made.endChangeBehind(x, 1);
        x.deliver(0);
        check.due("without a LEFT to its RIGHT", x.message(0, 1), 2);
        runs(check, x, 1, 2, 0, 2);
    }

    @Says(in = "Terms", value = "A PEER that is OUT, COMING: to the LEFT that it had at LEVEL 0 as it last became OUT, else to the RIGHT, else it is LOST")
    static void backFromOneThatIsComing(Check check) {
        OrderedPeers x = Made.in(10, 0, 20, 1);
        x.find(1, 5);
        x.leave(1);
        Made.endChangeBehind(x, 1);
        x.join(1, 0);
        check.due("COMING", x.told(1, 0), COMING);
        x.deliver(0);
        check.due("to its LEFT", x.message(1, 1), 0);
        runs(check, x, 0, 0, 1, 0);
        x.find(0, 5);
        x.leave(0);
        Made.endChangeBehind(x, 1);
        x.join(0, 1);
        x.deliver(0);
        check.due("to its RIGHT", x.message(1, 1), 1);
        check.due("not LOST", x.count(8), 0);
    }

    @Says(in = "Terms", value = "as it last became OUT")
    static void asItLastBecameOut(Check check) {
        OrderedPeers x = Made.in(10, 0, 20, 1, 30, 2);
        x.find(2, 5);
        x.leave(2);
        Made.endChangeBehind(x, 1);
        x.leave(1);
        Made.endChangeBehind(x, 1);
        x.join(2, 0);
        Made.endChangeBehind(x, 1);
        x.leave(2);
        Made.endChangeBehind(x, 1);
        x.deliver(0);
        check.due("its last LEFT, not the one before", x.message(0, 1), 0);
    }

    @Says(in = "Terms", value = "as it last became OUT")
    static void nobodyAsItLastBecameOut(Check check) {
        OrderedPeers x = Made.in(10, 0, 20, 1);
        x.find(1, 5);
        x.leave(1);
        Made.endChangeBehind(x, 1);
        x.leave(0);
        x.join(1, 1);
        x.leave(1);
        x.deliver(0);
        isLost(check, x, 0);
    }

    @Says(in = "Terms", value = "A PEER that is OUT, COMING: to the LEFT that it had at LEVEL 0 as it last became OUT")
    static void fromOneThatIsOutToAnother(Check check) {
        OrderedPeers x = Made.in(10, 0, 20, 1, 30, 2);
        x.find(2, 99);
        x.leave(2);
        Made.endChangeBehind(x, 1);
        x.leave(1);
        Made.endChangeBehind(x, 1);
        runs(check, x, 0, 0, 2, 1, 0);
    }

    @Says(in = "Terms", value = "else it is LOST: an ASK is DONE then, its answer NONE")
    static void lostWhereItIsOut(Check check) {
        OrderedPeers x = Made.in(10, 0);
        x.find(0, 10);
        x.leave(0);
        check.due("not LOST yet", x.count(8), 0);
        check.due("it comes", x.all(1000), 1);
        isLost(check, x, 0);
        check.due("its PASSES", x.ask(0, 3), 1);
        check.due("its WAY", x.passed(0, 0), 0);
    }

    @Says(in = "Terms", value = "else it is LOST: an ASK is DONE then, its answer NONE")
    static void lostWhereItIsComing(Check check) {
        OrderedPeers x = Made.in(10, 0);
        x.peer(20, 1);
        x.find(0, 10);
        x.leave(0);
        x.join(1, 1);
        x.join(0, 1);
        check.due("COMING", x.told(0, 0), COMING);
        x.deliver(0);
        check.due("LOST", x.count(8), 1);
        check.due("its answer", x.ask(0, 2), NONE);
        check.due("the JOIN is under way", x.count(2), 1);
    }

    @Says(in = "Terms", value = "an ASK is DONE then, its answer NONE")
    static void eachSortOfAskIsLost(Check check) {
        OrderedPeers x = Made.in(10, 0);
        x.find(0, 10);
        x.span(0, 10, 10);
        x.tally(0, 10, 10);
        x.put(0, 10, 5);
        x.get(0, 10);
        x.leave(0);
        check.due("all come", x.all(1000), 5);
        for (int k = 0; k < 5; k++) {
            check.due("DONE " + k, x.ask(k, 1), 1);
            check.due("answer " + k, x.ask(k, 2), NONE);
        }
        check.due("LOST", x.count(8), 5);
        check.due("DONE", x.count(4), 5);
        check.due("nobody was noted", x.noted(1, 0), NONE);
        check.due("nothing was put", x.told(0, 4), 0);
        check.due("nothing was found", x.value(4), 0);
    }

    // ---- FIND, PUT, GET

    @Says(in = "Terms", value = "FIND of x, THERE: DONE, its answer is the PEER.")
    static void findAnswersPeer0(Check check) {
        OrderedPeers x = Made.in(10, 0);
        x.find(0, 10);
        check.due("not DONE", x.ask(0, 1), 0);
        runs(check, x, 0, 0, 0);
        check.due("PEER 0 is not LOST", x.count(8), 0);
    }

    @Says(in = "Terms", value = "THERE: the PEER has that PAIR (instead of one with that KEY)")
    static void putInsteadOfOne(Check check) {
        OrderedPeers x = Made.in(10, 0, 20, 1);
        x.put(1, 10, 1);
        runs(check, x, 0, 1, 1, 0);
        x.put(0, 10, 2);
        runs(check, x, 1, 1, 0);
        check.due("one PAIR", x.told(0, 4), 1);
        check.due("the later VALUE", x.kept(0, 0), 2);
        x.put(0, 9, 3);
        x.put(0, 20, 4);
        x.put(0, 19, 5);
        x.all(1000);
        check.due("below all NAMES, and next below the other", x.told(0, 4), 3);
        check.due("the NAME itself", x.key(1, 0), 20);
    }

    @Says(in = "Terms", value = "GET: its VALUE is that of the PEER's PAIR: DONE, answer 1 (GET without such a PAIR: NONE)")
    static void getWithoutAPair(Check check) {
        OrderedPeers x = Made.in(10, 0);
        x.get(0, 10);
        runs(check, x, 0, NONE, 0);
        check.due("not LOST", x.count(8), 0);
        check.due("no VALUE", x.value(0), 0);
        x.put(0, 10, 0);
        x.get(0, 10);
        runs(check, x, 2, 1, 0);
        check.due("a VALUE of 0", x.value(2), 0);
        x.get(0, 9);
        x.get(0, 11);
        runs(check, x, 3, NONE, 0);
        runs(check, x, 4, NONE, 0);
    }

    @Says(in = "Terms", value = "While a CHANGE is on, PUTS and GETS are not taken.")
    static void putsAndGetsWait(Check check) {
        OrderedPeers x = Made.in(10, 0, 20, 0);
        x.put(0, 5, 1);
        x.get(0, 5);
        x.leave(1);
        int load = x.told(0, 3);
        for (int links = 9; links > 0; links--) {
            check.due("a PUT", x.deliver(0), STATE);
            check.due("a GET", x.deliver(1), STATE);
            check.due("messages", x.count(2), 2 + links);
            check.due("a LINK ahead of both", x.all(1), 1);
        }
        check.due("PASSES of the PUT", x.ask(0, 3), 0);
        check.due("LOAD by LINKS alone", x.told(0, 3), load + 9);
        check.due("the PUT, the CHANGE being over", x.deliver(0), 3);
        check.due("the GET", x.deliver(0), 4);
        check.due("found", x.value(1), 1);
    }

    @Says(in = "Terms", value = "While a CHANGE is on, PUTS and GETS are not taken.")
    static void putsAndGetsAreMadeAllTheSame(Check check) {
        OrderedPeers x = Made.in(10, 0, 20, 0);
        x.leave(1);
        check.due("a PUT", x.put(0, 5, 1), 0);
        check.due("a GET", x.get(0, 5), 1);
        check.due("LINKS, then both", x.all(1000), 11);
        check.due("found", x.value(1), 1);
    }

    // ---- SPAN, COUNT

    @Says(in = "Terms", value = "at each PEER (IN, GOING) that one is noted, if its NAME is a to b")
    static void aAndBAreInTheSpan(Check check) {
        int[][] spans = {{20, 40, 3}, {19, 41, 3}, {21, 40, 2}, {20, 39, 2}, {21, 39, 1}, {30, 30, 1}, {31, 31, 0},
            {LOW, 9, 0}, {LOW, 10, 1}, {50, HIGH, 1}, {51, HIGH, 0}, {LOW, HIGH, 5}, {LOW, LOW, 0}, {HIGH, HIGH, 0}};
        OrderedPeers x = Made.five();
        for (int i = 0; i < spans.length; i++) {
            check.due("span", x.span(i % 5, spans[i][0], spans[i][1]), 2 * i);
            check.due("tally", x.tally(4 - i % 5, spans[i][0], spans[i][1]), 2 * i + 1);
            x.all(1000);
            String what = spans[i][0] + " to " + spans[i][1];
            check.due("SPAN of " + what, x.ask(2 * i, 2), spans[i][2]);
            check.due("COUNT of " + what, x.ask(2 * i + 1, 2), spans[i][2]);
            check.due("no more are noted", x.noted(2 * i, spans[i][2]), NONE);
        }
        check.due("the first of 20 to 40", x.noted(0, 0), 1);
        check.due("the last of 20 to 40", x.noted(0, 2), 3);
    }

    @Says(in = "Terms", value = "at each PEER (IN, GOING) that one is noted, if its NAME is a to b")
    static void theOutermostNamesAreNoted(Check check) {
        OrderedPeers x = Made.in(LOW, 0, 0, 1, HIGH, 2);
        x.span(1, LOW, HIGH);
        runs(check, x, 0, 3, 1, 0, 1, 2);
        x.span(0, HIGH, HIGH);
        runs(check, x, 1, 1, 0, 2);
        x.tally(2, LOW, LOW);
        runs(check, x, 2, 1, 2, 0);
        x.tally(1, LOW + 1, HIGH - 1);
        runs(check, x, 3, 1, 1, 0, 1);
    }

    @Says(in = "Terms", value = "it is sent on to its RIGHT of LEVEL 0, if it has one whose NAME is not above b; else it is DONE")
    static void whereASpanEnds(Check check) {
        OrderedPeers x = Made.five();
        x.span(0, 10, 30);
        runs(check, x, 0, 3, 0, 1, 2);
        x.span(0, 10, 29);
        runs(check, x, 1, 2, 0, 1);
        x.span(0, 40, 50);
        runs(check, x, 2, 2, 0, 3, 4);
        x.span(0, 41, 49);
        runs(check, x, 3, 0, 0, 3);
        x.span(4, LOW, 9);
        runs(check, x, 4, 0, 4, 2, 1, 0);
    }

    @Says(in = "Terms", value = "at each PEER (IN, GOING) that one is noted")
    static void oneThatIsGoingIsNoted(Check check) {
        OrderedPeers x = Made.in(10, 0, 20, 1);
        x.span(1, 10, 20);
        x.leave(1);
        check.due("to the PEER that is GOING", x.deliver(0), 1);
        check.due("back to a", x.deliver(1), 1);
        check.due("and along", x.deliver(1), 1);
        check.due("GOING", x.told(1, 0), GOING);
        check.due("both are noted", x.ask(0, 2), 2);
        check.due("the one that is GOING too", x.noted(0, 1), 1);
    }

    @Says(in = "Terms", value = "its answer how many were noted (of SPAN 40 at most are told)")
    static void ofASpan40AreTold(Check check) {
        OrderedPeers x = spanOf32SentBack(8);
        check.due("40 were noted", x.ask(0, 2), 40);
        check.due("the 40th", x.noted(0, 39), 31);
        check.due("no 41st", x.noted(0, 40), NONE);
        x = spanOf32SentBack(9);
        check.due("41 were noted", x.ask(0, 2), 41);
        check.due("the 40th of them", x.noted(0, 39), 30);
        check.due("the 41st is not told", x.noted(0, 40), NONE);
    }

    /** A SPAN of all 32 that is so often sent back from the last, which has left, to the last but one. */
    private static OrderedPeers spanOf32SentBack(int times) {
        OrderedPeers x = new OrderedPeers();
        for (int p = 0; p < 32; p++) {
            x.peer(p, p < 30 ? 2 * p : 2 * p - 59);
            x.join(p, Math.max(p - 1, 0));
            x.all(1000);
        }
        x.span(0, 0, 31);
        x.all(31);
        for (int i = 0; i < times; i++) {
            x.leave(31);
            Made.endChangeBehind(x, 1);
            x.deliver(0);
            x.join(31, 30);
            Made.endChangeBehind(x, 1);
            x.deliver(0);
        }
        x.all(1000);
        return x;
    }

    @Says(in = "Terms", value = "(OUT, COMING ones as above.)")
    static void aSpanGoesBackAndAlong(Check check) {
        OrderedPeers x = Made.in(10, 0, 20, 1, 30, 2);
        x.span(0, 10, 30);
        x.all(2);
        x.leave(2);
        Made.endChangeBehind(x, 1);
        runs(check, x, 0, 3, 0, 1, 2, 1);
        check.due("noted", x.noted(0, 1), 1);
        check.due("once more", x.noted(0, 2), 1);
        x.tally(0, 10, 30);
        x.all(1);
        x.leave(1);
        Made.endChangeBehind(x, 1);
        x.join(1, 0);
        x.deliver(0);
        check.due("back from one that is COMING", x.message(1, 1), 0);
    }

    @Says(in = "Terms", value = "(OUT, COMING ones as above.)")
    static void aSpanIsLostAsItGoesAlong(Check check) {
        OrderedPeers x = Made.in(10, 0, 20, 1);
        x.span(0, 10, 20);
        x.all(1);
        x.leave(1);
        Made.endChangeBehind(x, 1);
        x.leave(0);
        x.all(1000);
        isLost(check, x, 0);
        check.due("the one that was noted", x.noted(0, 0), 0);
        check.due("no other", x.noted(0, 1), NONE);
    }
}
