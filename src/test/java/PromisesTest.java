/** Each promise of the document by runs made by hand: ordinary inputs, edges, wrong inputs. */
public final class PromisesTest {
    private static final int BAD = OrderedPeers.BAD, STATE = OrderedPeers.STATE;
    private static final int FULL = OrderedPeers.FULL, NONE = OrderedPeers.NONE;
    private static final int LOW = Integer.MIN_VALUE, HIGH = Integer.MAX_VALUE;

    private static final Check CHECK = new Check();

    public static void main(String[] args) {
        promise1();
        promise2();
        promise3();
        promise4();
        promise5();
        seekTurns();
        joinGivesPairs();
        promise6();
        leaveHandsPairs();
        promise7();
        promise8();
        awayOnesSendBack();
        promise9();
        spanNotesAgain();
        promise10();
        promise11();
        promise12();
        promise13();
        promise14();
        promise15();
        promise16();
        promise17();
        lateLinks();
        mostMessages();
        promise18();
        promise19();
        promise20();
        promise21();
        promise22();
        promises23and24();
        promise25();
        promise26();
        promise27();
        promise28();
        promise29();
        promise30();
        CHECK.end();
    }

    private static void due(String what, long got, long want) {
        CHECK.due(what, got, want);
    }

    /** Makes PEERS of these NAMES and BITS, in turn, and lets them all join. */
    private static OrderedPeers joined(int... namesAndBits) {
        OrderedPeers x = new OrderedPeers();
        for (int i = 0; i < namesAndBits.length; i += 2) {
            int p = x.peer(namesAndBits[i], namesAndBits[i + 1]);
            x.join(p, 0);
            x.all(1000);
        }
        due("all have joined", x.count(1), namesAndBits.length / 2);
        due("sound", x.sound(), 1);
        return x;
    }

    /** NAMES 10 to 50; THE ROWS of LEVEL 1 and on: 10, 40 and 20, 30, 50. */
    private static OrderedPeers five() {
        return joined(10, 0, 20, 1, 30, 1, 40, 0, 50, 1);
    }

    private static void way(String what, OrderedPeers x, int k, int... peers) {
        due(what + ": passes", x.ask(k, 3), peers.length);
        for (int i = 0; i < peers.length; i++) {
            due(what + ": passed " + i, x.passed(k, i), peers[i]);
        }
    }

    private static void message(String what, OrderedPeers x, int i, int... told) {
        for (int w = 0; w < told.length; w++) {
            due(what + ": message " + i + ", " + w, x.message(i, w), told[w]);
        }
    }

    private static void why(String what, OrderedPeers x, int peer, int level, int which) {
        due(what + ": why 0", x.why(0), peer);
        due(what + ": why 1", x.why(1), level);
        due(what + ": why 2", x.why(2), which);
        due(what + ": sound", x.sound(), 0);
    }

    /** Lets only the messages of the CHANGE come, in order. */
    private static void finishChange(OrderedPeers x) {
        for (int tries = 0; tries < 5000 && x.count(6) > 0; tries++) {
            int i = 0;
            while (x.message(i, 0) < 5) {
                i++;
            }
            x.deliver(i);
        }
        due("the change is over", x.count(5), 0);
    }

    private static void promise1() {
        OrderedPeers x = new OrderedPeers();
        for (int what = 0; what <= 8; what++) {
            due("count of a new object " + what, x.count(what), 0);
        }
        due("new: sound", x.sound(), 1);
        due("new: worst", x.worst(), NONE);
        due("new: deliver", x.deliver(0), BAD);
        due("new: all", x.all(1000), 0);
        x.drawn(1);
        due("THE DRAW was 1", x.told(0, 1), 198);
    }

    private static void promise2() {
        OrderedPeers x = new OrderedPeers();
        due("bits 256", x.peer(1, 256), BAD);
        due("bits -1", x.peer(1, -1), BAD);
        due("lowest name", x.peer(LOW, 0), 0);
        due("highest name", x.peer(HIGH, 255), 1);
        due("bits", x.told(1, 1), 255);
        due("same name", x.peer(LOW, 3), BAD);
        due("bits stay", x.told(0, 1), 0);
        for (int i = 2; i < 32; i++) {
            due("peer", x.peer(i, i), i);
        }
        due("the 33rd", x.peer(99, 0), FULL);
        due("BAD is ahead of FULL: name", x.peer(5, 0), BAD);
        due("BAD is ahead of FULL: bits", x.peer(99, 256), BAD);
        due("no more peers", x.count(0), 32);
        due("OUT at first", x.told(31, 0), 0);
    }

    private static void promise3() {
        OrderedPeers x = new OrderedPeers();
        int[] bits = {198, 126, 129, 107};
        for (int i = 0; i < bits.length; i++) {
            due("drawn", x.drawn(i), i);
            due("the refused draws nothing", x.drawn(i), BAD);
            due("drawn bits", x.told(i, 1), bits[i]);
        }
        for (int i = 4; i < 32; i++) {
            x.drawn(i);
        }
        due("drawn, full", x.drawn(99), FULL);
        due("drawn, BAD is ahead of FULL", x.drawn(31), BAD);
    }

    private static void promise4() {
        int[] seeds = {0, 7, -1, HIGH};
        int[][] bits = {{0, 220}, {108, 78}, {57, 57}, {57, 57}};
        for (int i = 0; i < seeds.length; i++) {
            OrderedPeers x = new OrderedPeers();
            due("seed", x.seed(seeds[i]), 1);
            x.drawn(1);
            x.drawn(2);
            due("first draw of seed " + seeds[i], x.told(0, 1), bits[i][0]);
            due("second draw of seed " + seeds[i], x.told(1, 1), bits[i][1]);
        }
    }

    private static void promise5() {
        OrderedPeers x = new OrderedPeers();
        x.peer(10, 0);
        x.peer(20, 1);
        x.peer(15, 1);
        due("join of none", x.join(3, 0), BAD);
        due("join of -1", x.join(-1, 0), BAD);
        due("join by none", x.join(0, 3), BAD);
        due("join by -1", x.join(0, -1), BAD);
        due("nobody is IN, v is not u", x.join(0, 1), STATE);
        due("the first", x.join(0, 0), 1);
        due("at once", x.told(0, 0), 2);
        due("no messages", x.count(2), 0);
        due("no change", x.count(5), 0);
        due("a place", x.told(0, 2), 1);
        due("with nobody", x.beside(0, 0, 1), NONE);
        due("u is IN", x.join(0, 0), STATE);
        due("v is not IN", x.join(1, 2), STATE);
        due("v is u", x.join(1, 1), STATE);
        due("the second", x.join(1, 0), 1);
        due("COMING", x.told(1, 0), 1);
        due("a change is on", x.join(2, 0), STATE);
        due("BAD is ahead of STATE", x.join(2, 9), BAD);
        message("JOIN", x, 0, 5, 0, NONE, NONE);
        due("JOIN comes", x.deliver(0), 5);
        message("GIVE", x, 0, 6, 1, NONE, NONE);
        due("still COMING", x.told(1, 0), 1);
        due("GIVE comes", x.deliver(0), 6);
        due("IN by GIVE", x.told(1, 0), 2);
        due("its LEFT", x.beside(1, 0, 0), 0);
        due("its RIGHT", x.beside(1, 0, 1), NONE);
        due("no other place", x.told(1, 2), 1);
        message("LINK", x, 0, 7, 0, NONE, 0);
        message("SEEK", x, 1, 8, 0, NONE, 0);
        due("SEEK comes", x.deliver(1), 8);
        message("TELL", x, 1, 9, 1, NONE, 1);
        due("TELL comes", x.deliver(1), 9);
        due("a place by TELL", x.told(1, 2), 2);
        due("LINK is under way", x.count(5), 1);
        due("nothing known yet", x.beside(0, 0, 1), NONE);
        x.deliver(0);
        due("known by LINK", x.beside(0, 0, 1), 1);
        due("a place above by LINK", x.beside(0, 1, 1), NONE);
        due("over", x.count(5), 0);
        due("sound", x.sound(), 1);
        x.join(2, 1);
        x.all(1);
        message("JOIN goes on to the left", x, 0, 5, 0);
        x.all(2);
        message("LINK to the left first", x, 0, 7, 0, NONE, 0);
        message("then to the right", x, 1, 7, 1, NONE, 0);
        message("SEEK to the right", x, 2, 8, 1, NONE, 0);
        x.all(1000);
        due("sound of three", x.sound(), 1);
    }

    private static void seekTurns() {
        OrderedPeers x = joined(10, 0, 30, 1, 40, 3);
        x.peer(20, 0);
        x.join(3, 0);
        x.all(4);
        message("SEEK to the right", x, 0, 8, 1, NONE, 0);
        x.all(1);
        message("on to the right", x, 0, 8, 2, NONE, 0);
        x.all(1);
        message("then to the left of u", x, 0, 8, 0, NONE, 0);
        x.all(2);
        due("LEFT by TELL", x.beside(3, 1, 0), 0);
        due("RIGHT by TELL", x.beside(3, 1, 1), NONE);
        x.all(1000);
        due("sound", x.sound(), 1);
        x.peer(25, 2);
        x.join(4, 3);
        x.all(1000);
        due("sound of five", x.sound(), 1);
        x.peer(5, 4);
        x.join(5, 3);
        x.all(1000);
        due("sound of six", x.sound(), 1);
    }

    /** Every ASK's message and the most that a CHANGE can have are under way at once. */
    private static void mostMessages() {
        OrderedPeers x = joined(10, 0, 20, 0, 30, 0);
        x.put(1, 25, 4);
        x.all(1000);
        for (int k = 1; k < 160; k++) {
            x.find(1, 25);
        }
        x.leave(1);
        due("159 finds, 18 LINKS, a HAND", x.count(2), 178);
        due("the last is the HAND", x.message(177, 0), 10);
        due("all come", x.all(1000), 178);
        due("all are done", x.count(4), 160);
        due("sound", x.sound(), 1);
        due("the pair", x.kept(0, 0), 4);
    }

    private static void joinGivesPairs() {
        OrderedPeers x = joined(10, 0, 30, 1);
        x.peer(20, 2);
        x.peer(4, 3);
        int[] keys = {9, 5, 19, 20, 29, 30};
        for (int key : keys) {
            x.put(0, key, key * 100L);
        }
        x.all(1000);
        due("pairs of 10", x.told(0, 4), 5);
        due("pairs of 30", x.told(1, 4), 1);
        x.join(2, 1);
        x.all(2);
        due("GIVE is under way", x.message(0, 0), 6);
        due("w has these no more", x.told(0, 4), 3);
        due("u has none yet", x.told(2, 4), 0);
        x.all(1);
        due("u has them", x.told(2, 4), 2);
        due("its first key", x.key(2, 0), 20);
        due("its second value", x.kept(2, 1), 2900);
        x.all(1000);
        x.join(3, 1);
        x.all(1000);
        due("those below w's name", x.told(3, 4), 2);
        due("the least key", x.key(3, 0), 5);
        due("the next key", x.key(3, 1), 9);
        due("the others stay", x.told(0, 4), 1);
    }

    private static void promise6() {
        OrderedPeers x = joined(10, 0, 20, 1, 30, 0);
        x.peer(25, 0);
        due("leave of none", x.leave(4), BAD);
        due("leave of -1", x.leave(-1), BAD);
        due("leave of one that is OUT", x.leave(3), STATE);
        due("leave", x.leave(1), 1);
        due("GOING", x.told(1, 0), 3);
        due("it keeps its places", x.told(1, 2), 2);
        due("a change is on", x.leave(0), STATE);
        due("two messages", x.count(2), 2);
        message("LINK to the left", x, 0, 7, 0, NONE, 0);
        message("LINK to the right", x, 1, 7, 2, NONE, 0);
        x.deliver(1);
        due("the right one's LEFT", x.beside(2, 0, 0), 0);
        due("still GOING", x.told(1, 0), 3);
        x.deliver(0);
        due("the left one's RIGHT", x.beside(0, 0, 1), 2);
        due("OUT", x.told(1, 0), 0);
        due("without places", x.told(1, 2), 0);
        due("sound", x.sound(), 1);
        due("leave of the right one", x.leave(2), 1);
        due("a LINK for each level", x.count(6), 9);
        x.all(1);
        due("nobody at 0: none above", x.told(0, 2), 1);
        x.all(1000);
        due("late LINKS of nobody make no place", x.told(0, 2), 1);
        due("sound, alone", x.sound(), 1);
        due("the last leaves", x.leave(0), 1);
        due("at once", x.told(0, 0), 0);
        due("no change is on", x.count(5), 0);
    }

    private static void leaveHandsPairs() {
        OrderedPeers x = joined(10, 0, 20, 1, 30, 0);
        x.put(0, 5, 55);
        x.put(0, 25, 77);
        x.all(1000);
        x.leave(1);
        message("HAND to the left, last", x, 2, 10, 0, NONE, NONE);
        due("they are on their way", x.told(1, 4), 0);
        due("HAND", x.deliver(2), 10);
        due("they have come", x.key(0, 1), 25);
        due("with the value", x.kept(0, 1), 77);
        x.all(1000);
        x.leave(0);
        message("HAND to the right", x, x.count(2) - 1, 10, 2, NONE, NONE);
        x.all(1000);
        due("the right one has both", x.told(2, 4), 2);
        due("by keys", x.key(2, 0), 5);
        x.leave(2);
        due("with nobody there", x.told(2, 4), 0);
        x.join(2, 2);
        x.get(2, 5);
        x.all(1);
        due("they are no more", x.ask(2, 2), NONE);
    }

    private static void promise7() {
        OrderedPeers x = joined(10, 0);
        x.peer(20, 0);
        due("again of none", x.again(2, 0), BAD);
        due("again of -1", x.again(-1, 0), BAD);
        due("bits 256", x.again(0, 256), BAD);
        due("bits -1", x.again(0, -1), BAD);
        due("not IN", x.again(1, 0), STATE);
        due("alone", x.again(0, 255), 1);
        due("new bits at once", x.told(0, 1), 255);
        due("nothing is sent", x.count(2), 0);
        due("no change", x.count(5), 0);
        x = five();
        due("again", x.again(2, 0), 1);
        due("the kind", x.count(5), 3);
        due("it is IN", x.told(2, 0), 2);
        due("level 0 stays", x.told(2, 2), 1);
        due("old bits as yet", x.told(2, 1), 1);
        due("two LINKS a level", x.count(2), 16);
        message("LINKS from level 1", x, 0, 7, 1, NONE, 1);
        due("a change is on", x.again(2, 0), STATE);
        due("BAD is ahead of STATE", x.again(2, 256), BAD);
        x.all(15);
        due("one LINK is under way", x.told(2, 1), 1);
        x.all(1);
        due("new bits", x.told(2, 1), 0);
        message("SEEK of 0 to the right, no LINKS of 0", x, 0, 8, 3, NONE, 0);
        due("SEEK alone", x.count(2), 1);
        due("no place of 1 yet", x.beside(2, 1, 0), STATE);
        x.all(2);
        due("LEFT by TELL", x.beside(2, 1, 0), 0);
        due("RIGHT by TELL", x.beside(2, 1, 1), 3);
        x.all(1000);
        due("sound", x.sound(), 1);
        due("over", x.count(5), 0);
        x = joined(10, 0, 20, 1);
        x.again(1, 3);
        due("no LINKS: new bits at once", x.told(1, 1), 3);
        message("and a SEEK to the left", x, 0, 8, 0, NONE, 0);
        x.all(1000);
        due("a place of 1 with nobody", x.beside(1, 1, 0), NONE);
        due("sound of two", x.sound(), 1);
    }

    private static void promise8() {
        OrderedPeers x = five();
        x.peer(60, 0);
        due("find from none", x.find(6, 1), BAD);
        due("find from -1", x.find(-1, 1), BAD);
        due("find from one that is OUT", x.find(5, 1), STATE);
        int[][] runs = {{0, 45, 0, 3}, {0, 35, 0, 1, 2}, {4, 15, 4, 2, 1, 0}, {4, 5, 4, 2, 1, 0},
            {2, 30, 2}, {0, HIGH, 0, 3, 4}, {4, LOW, 4, 2, 1, 0}, {3, 20, 3, 2, 1}, {3, 50, 3, 4},
            {3, 10, 3, 0}};
        for (int k = 0; k < runs.length; k++) {
            int[] peers = java.util.Arrays.copyOfRange(runs[k], 2, runs[k].length);
            due("find", x.find(runs[k][0], runs[k][1]), k);
            due("not yet", x.ask(k, 1), 0);
            x.all(1000);
            due("done", x.ask(k, 1), 1);
            due("answer", x.ask(k, 2), peers[peers.length - 1]);
            way("find of " + runs[k][1], x, k, peers);
        }
        for (int k = runs.length; k < 160; k++) {
            due("find", x.find(0, k), k);
        }
        due("the 161st", x.find(0, 1), FULL);
        due("STATE is ahead of FULL", x.find(5, 1), STATE);
        due("160 asks", x.count(3), 160);
    }

    private static void awayOnesSendBack() {
        OrderedPeers x = joined(10, 0, 20, 1, 30, 2);
        x.find(1, 25);
        x.find(1, 5);
        x.leave(1);
        x.deliver(0);
        due("a GOING one sends as one that is IN, or is the answer", x.ask(0, 2), 1);
        finishChange(x);
        x.join(1, 0);
        due("COMING", x.told(1, 0), 1);
        x.deliver(0);
        message("to the LEFT that it had", x, 1, 0, 0, 1, NONE);
        x.all(1000);
        way("sent back", x, 1, 1, 0);
        due("answer", x.ask(1, 2), 0);
        x.find(0, 25);
        x.leave(0);
        finishChange(x);
        x.all(1000);
        way("to the RIGHT, without a LEFT", x, 2, 0, 1);
        due("load of one that is OUT", x.told(0, 3) > 0 ? 1 : 0, 1);
        x.find(2, 40);
        x.leave(2);
        finishChange(x);
        x.leave(1);
        x.all(1000);
        way("lost at last", x, 3, 2, 1);
        due("its answer", x.ask(3, 2), NONE);
        due("lost", x.count(8), 1);
        due("done all", x.count(4), 4);
    }

    private static void promise9() {
        OrderedPeers x = five();
        x.peer(60, 0);
        due("from none", x.span(6, 1, 2), BAD);
        due("b below a", x.span(0, 2, 1), BAD);
        due("b below a is ahead of STATE", x.span(5, 2, 1), BAD);
        due("not IN", x.span(5, 1, 2), STATE);
        due("span", x.span(4, 20, 40), 0);
        x.all(1000);
        way("span", x, 0, 4, 2, 1, 2, 3);
        due("answer", x.ask(0, 2), 3);
        for (int i = 0; i < 3; i++) {
            due("noted", x.noted(0, i), i + 1);
        }
        due("between names", x.span(0, 21, 29), 1);
        x.all(1000);
        due("nobody", x.ask(1, 2), 0);
        due("all of them", x.span(2, LOW, HIGH), 2);
        x.all(1000);
        due("five", x.ask(2, 2), 5);
        due("a single name", x.span(2, 40, 40), 3);
        x.all(1000);
        due("one", x.ask(3, 2), 1);
        due("below all", x.span(2, LOW, LOW), 4);
        x.all(1000);
        due("none", x.ask(4, 2), 0);
    }

    /** A SPAN that goes along is sent back by a PEER that has left, and notes what it then comes to. */
    private static void spanNotesAgain() {
        int[] all = new int[64];
        for (int p = 0; p < 32; p++) {
            all[2 * p] = p;
            all[2 * p + 1] = p < 30 ? 2 * p : p == 30 ? 1 : 3;
        }
        OrderedPeers x = joined(all);
        x.span(0, 0, 31);
        x.all(31);
        for (int i = 0; i < 10; i++) {
            x.leave(31);
            Made.endChangeBehind(x, 1);
            x.deliver(0);
            x.join(31, 30);
            Made.endChangeBehind(x, 1);
            x.deliver(0);
        }
        x.all(1000);
        due("how many were noted", x.ask(0, 2), 42);
        due("passes", x.ask(0, 3), 52);
        due("its way", x.ask(0, 4), 40);
        due("way 39", x.passed(0, 39), 31);
        due("way 40", x.passed(0, 40), NONE);
        due("noted 30", x.noted(0, 30), 30);
        due("noted 31", x.noted(0, 31), 30);
        due("noted 39", x.noted(0, 39), 30);
        due("40 at most are told", x.noted(0, 40), NONE);
    }

    private static void promise10() {
        OrderedPeers x = five();
        x.peer(60, 0);
        due("from none", x.tally(-1, 1, 2), BAD);
        due("b below a", x.tally(0, HIGH, LOW), BAD);
        due("not IN", x.tally(5, 1, 2), STATE);
        due("tally", x.tally(0, 15, 45), 0);
        x.all(1000);
        due("answer", x.ask(0, 2), 3);
        way("tally", x, 0, 0, 1, 2, 3);
        due("not noted by name", x.noted(0, 0), BAD);
    }

    private static void promise11() {
        OrderedPeers x = five();
        x.peer(60, 0);
        due("from none", x.put(6, 1, 1), BAD);
        due("not IN", x.put(5, 1, 1), STATE);
        due("refused puts are no keys", x.count(7), 0);
        due("put", x.put(4, 25, Long.MIN_VALUE), 0);
        due("a key at once", x.count(7), 1);
        x.all(1000);
        way("put", x, 0, 4, 2, 1);
        due("answer", x.ask(0, 2), 1);
        due("value", x.kept(1, 0), Long.MIN_VALUE);
        x.put(0, 25, Long.MAX_VALUE);
        x.all(1000);
        due("instead of the one", x.told(1, 4), 1);
        due("the new value", x.kept(1, 0), Long.MAX_VALUE);
        for (int key = 1; key < 16; key++) {
            due("put of key " + key, x.put(0, key, 1), key + 1);
        }
        due("16 keys", x.count(7), 16);
        due("the 17th", x.put(0, 16, 1), FULL);
        due("STATE is ahead of FULL", x.put(5, 16, 1), STATE);
        due("an old key", x.put(0, 25, 3), 17);
        due("no ask for the refused", x.count(3), 18);
        due("below all names: the least", x.keeper(1), 0);
        x.all(1000);
        due("there", x.told(0, 4), 15);
    }

    private static void promise12() {
        OrderedPeers x = five();
        x.peer(60, 0);
        due("from none", x.get(6, 1), BAD);
        due("not IN", x.get(5, 1), STATE);
        due("get", x.get(0, 35), 0);
        due("no key by get", x.count(7), 0);
        x.all(1000);
        due("without such a pair", x.ask(0, 2), NONE);
        due("not lost", x.count(8), 0);
        way("get", x, 0, 0, 1, 2);
        x.put(4, 35, -9);
        x.all(1000);
        x.get(0, 35);
        x.all(1000);
        due("found", x.ask(2, 2), 1);
        due("its value", x.value(2), -9);
    }

    private static void promise13() {
        OrderedPeers x = five();
        x.find(0, 50);
        x.span(0, 1, 2);
        x.tally(0, 1, 2);
        x.put(0, 1, 2);
        x.get(0, 1);
        for (int k = 0; k < 5; k++) {
            due("sort", x.ask(k, 0), k);
            for (int what = 1; what <= 4; what++) {
                due("at first", x.ask(k, what), 0);
            }
        }
        due("no ask", x.ask(5, 0), BAD);
        due("ask -1", x.ask(-1, 0), BAD);
        due("what 5", x.ask(0, 5), BAD);
        due("what -1", x.ask(0, -1), BAD);
        x.deliver(0);
        due("not done", x.ask(0, 1), 0);
        due("no answer yet", x.ask(0, 2), 0);
        due("passes", x.ask(0, 3), 1);
        due("way", x.ask(0, 4), 1);
        x.all(1000);
        due("done", x.ask(0, 1), 1);
        due("answer", x.ask(0, 2), 4);
    }

    private static void promise14() {
        OrderedPeers x = five();
        x.find(4, 10);
        due("nothing as yet", x.passed(0, 0), NONE);
        x.deliver(0);
        due("the first", x.passed(0, 0), 4);
        due("no second", x.passed(0, 1), NONE);
        due("no ask", x.passed(1, 0), BAD);
        due("ask -1", x.passed(-1, 0), BAD);
        due("i -1", x.passed(0, -1), NONE);
        due("i far below", x.passed(0, LOW), NONE);
        due("no ask, i -1", x.passed(1, -1), BAD);
        due("i far off", x.passed(0, HIGH), NONE);
    }

    private static void promise15() {
        OrderedPeers x = five();
        x.span(0, 10, 20);
        x.find(0, 10);
        due("nothing as yet", x.noted(0, 0), NONE);
        x.deliver(0);
        due("before it is done", x.noted(0, 0), 0);
        due("no second", x.noted(0, 1), NONE);
        due("i -1", x.noted(0, -1), NONE);
        due("i far below", x.noted(0, LOW), NONE);
        due("another ask, i -1", x.noted(1, -1), BAD);
        due("no ask, i -1", x.noted(2, -1), BAD);
        due("i far off", x.noted(0, HIGH), NONE);
        due("another ask", x.noted(1, 0), BAD);
        due("no ask", x.noted(2, 0), BAD);
        due("ask -1", x.noted(-1, 0), BAD);
    }

    private static void promise16() {
        OrderedPeers x = five();
        x.put(0, 35, 1L << 40);
        x.all(1000);
        x.get(0, 35);
        due("none yet", x.value(1), 0);
        x.all(1000);
        due("found", x.value(1), 1L << 40);
        due("a put", x.value(0), 0);
        due("no ask", x.value(2), 0);
        due("ask -1", x.value(-1), 0);
        x.put(0, 35, 5);
        x.all(1000);
        due("as it was found", x.value(1), 1L << 40);
    }

    private static void promise17() {
        OrderedPeers x = five();
        x.put(0, 35, 1);
        x.get(0, 35);
        x.find(0, 40);
        due("no message", x.deliver(3), BAD);
        due("message -1", x.deliver(-1), BAD);
        due("any of them", x.deliver(2), 0);
        message("sent on as the last", x, 2, 0, 3, 2, NONE);
        due("get first", x.deliver(1), 4);
        message("the others keep their order", x, 1, 0, 3, 2);
        x.leave(4);
        due("a put while a change is on", x.deliver(0), STATE);
        due("a get while a change is on", x.deliver(2), STATE);
        due("nothing has come", x.ask(1, 3), 1);
        due("a find while a change is on", x.deliver(1), 0);
        due("a LINK", x.deliver(2), 7);
        finishChange(x);
        due("a put now", x.deliver(0), 3);
    }

    /** LINKS that come last, or the highest first, leave all SOUND. */
    private static void lateLinks() {
        OrderedPeers x = joined(10, 0, 20, 1, 30, 0);
        x.peer(25, 0);
        x.join(3, 2);
        for (int tries = 0; tries < 5000 && x.message(x.count(2) - 1, 0) != 7; tries++) {
            x.deliver(x.count(2) - 1);
        }
        for (int i = 0; i < 200 && x.count(2) > 0; i++) {
            int at = 0;
            while (at < x.count(2) - 1 && x.message(at, 0) == 7) {
                at++;
            }
            x.deliver(at);
        }
        due("joined, LINKS last", x.sound(), 1);
        x.leave(3);
        for (int i = 0; i < 200 && x.count(2) > 0; i++) {
            x.deliver(x.count(2) - 1);
        }
        due("left, LINKS from the top", x.sound(), 1);
        due("over", x.count(5), 0);
        x = joined(10, 0);
        x.peer(20, 0);
        x.join(1, 0);
        x.all(2);
        x.deliver(1);
        x.deliver(1);
        message("LINK of 1 ahead of that of 0", x, 1, 7, 0, NONE, 1);
        x.deliver(1);
        due("places 0, 1, 2", x.told(0, 2), 3);
        due("nobody at 0", x.beside(0, 0, 1), NONE);
        due("u at 1", x.beside(0, 1, 1), 1);
        due("nobody at 2", x.beside(0, 2, 1), NONE);
    }

    private static void promise18() {
        OrderedPeers x = five();
        due("n -1", x.all(-1), BAD);
        due("n 1001", x.all(1001), BAD);
        due("n 0", x.all(0), 0);
        due("n 1000, no message", x.all(1000), 0);
        x.put(0, 35, 1);
        x.find(0, 10);
        x.find(1, 20);
        x.leave(4);
        due("one", x.all(1), 1);
        due("the put stays", x.message(0, 0), 3);
        due("the first that can be taken", x.ask(1, 1), 1);
        due("not the next", x.ask(2, 1), 0);
        int links = x.count(6);
        due("the find, the LINKS, then the put's three", x.all(1000), 1 + links + 3);
        due("none is left", x.count(2), 0);
    }

    private static void promise19() {
        OrderedPeers x = five();
        due("no message", x.message(0, 0), BAD);
        x.span(1, 1, 2);
        message("an ask's", x, 0, 1, 1, 0, NONE);
        due("what 4", x.message(0, 4), BAD);
        due("what -1", x.message(0, -1), BAD);
        due("message 1", x.message(1, 0), BAD);
        due("message -1", x.message(-1, 0), BAD);
        x.leave(3);
        message("LINK of 0", x, 1, 7, 2, NONE, 0);
        message("LINK of 0, right", x, 2, 7, 4, NONE, 0);
        message("LINK of 1", x, 3, 7, 0, NONE, 1);
        message("LINK of 8", x, 10, 7, 0, NONE, 8);
    }

    private static void promise20() {
        OrderedPeers x = five();
        due("IN", x.told(1, 0), 2);
        due("bits", x.told(1, 1), 1);
        due("places", x.told(1, 2), 9);
        int load = x.told(1, 3);
        x.find(1, 20);
        due("load before", x.told(1, 3), load);
        x.all(1);
        due("load after", x.told(1, 3), load + 1);
        due("pairs", x.told(1, 4), 0);
        x.put(1, 22, 1);
        x.all(1);
        due("a pair", x.told(1, 4), 1);
        due("what 5", x.told(1, 5), BAD);
        due("what -1", x.told(1, -1), BAD);
        due("no peer", x.told(5, 0), BAD);
        due("peer -1", x.told(-1, 0), BAD);
        OrderedPeers y = joined(1, 0);
        y.peer(2, 0);
        y.join(1, 0);
        y.all(1000);
        due("load of changes: JOIN, 9 LINKS, 8 SEEKS", y.told(0, 3), 18);
        due("load of the comer: GIVE, 8 TELLS", y.told(1, 3), 9);
    }

    private static void promise21() {
        OrderedPeers x = joined(10, 0, -20, 1);
        due("name", x.name(1), -20);
        due("no peer", x.name(2), 0);
        due("peer -1", x.name(-1), 0);
        due("peer far off", x.name(HIGH), 0);
    }

    private static void promise22() {
        OrderedPeers x = joined(10, 0, 20, 1, 30, 0);
        x.peer(40, 0);
        due("LEFT", x.beside(1, 0, 0), 0);
        due("RIGHT", x.beside(1, 0, 1), 2);
        due("RIGHT of 8", x.beside(0, 8, 1), 2);
        due("nobody", x.beside(1, 1, 0), NONE);
        due("no place", x.beside(1, 2, 0), STATE);
        due("no place of one that is OUT", x.beside(3, 0, 0), STATE);
        due("level 9", x.beside(0, 9, 0), BAD);
        due("level -1", x.beside(0, -1, 0), BAD);
        due("side 2", x.beside(0, 0, 2), BAD);
        due("side -1", x.beside(0, 0, -1), BAD);
        due("no peer", x.beside(4, 0, 0), BAD);
        due("BAD is ahead of STATE", x.beside(3, 0, 2), BAD);
    }

    private static void promises23and24() {
        OrderedPeers x = joined(0, 0);
        int[] keys = {7, LOW, 3, HIGH, -1};
        int[] sorted = {LOW, -1, 3, 7, HIGH};
        for (int key : keys) {
            x.put(0, key, 2L * key);
        }
        x.all(1000);
        for (int i = 0; i < sorted.length; i++) {
            due("key", x.key(0, i), sorted[i]);
            due("kept", x.kept(0, i), 2L * sorted[i]);
        }
        int[] wrong = {5, -1, 16, HIGH, LOW};
        for (int i : wrong) {
            due("no key", x.key(0, i), 0);
            due("no value", x.kept(0, i), 0);
        }
        due("no peer's key", x.key(1, 0), 0);
        due("no peer's value", x.kept(1, 0), 0);
        due("peer -1's key", x.key(-1, 0), 0);
        due("peer -1's value", x.kept(-1, 0), 0);
    }

    private static void promise25() {
        OrderedPeers x = joined(30, 0, 10, 1, 20, 2);
        due("the name itself", x.keeper(20), 2);
        due("between", x.keeper(29), 2);
        due("above", x.keeper(HIGH), 0);
        due("below", x.keeper(LOW), 1);
        x.leave(2);
        due("a GOING one keeps none", x.keeper(25), 1);
        x.all(1000);
        x.join(2, 0);
        due("nor does a COMING one", x.keeper(25), 1);
        due("nobody", new OrderedPeers().keeper(0), NONE);
    }

    private static void promise26() {
        OrderedPeers x = joined(30, 0, 10, 1, 20, 4, 40, 3);
        x.peer(35, 5);
        int[][] rows = {{0, 0, 1, 2, 0, 3}, {0, 1, 2, 0}, {0, 2, 2, 0}, {0, 3, 0}, {4, 1, 1, 3}, {4, 2, 1}, {4, 3}, {3, 8, 3}};
        for (int[] row : rows) {
            for (int i = 2; i < row.length; i++) {
                due("row of " + row[0] + " at " + row[1], x.row(row[0], row[1], i - 2), row[i]);
            }
            due("no more", x.row(row[0], row[1], row.length - 2), NONE);
        }
        due("no peer", x.row(5, 0, 0), BAD);
        due("peer -1", x.row(-1, 0, 0), BAD);
        due("level 9", x.row(0, 9, 0), BAD);
        due("level -1", x.row(0, -1, 0), BAD);
        due("i -1", x.row(0, 0, -1), NONE);
        due("i far below", x.row(0, 0, LOW), NONE);
        due("no peer, i -1", x.row(5, 0, -1), BAD);
        due("level 9, i -1", x.row(0, 9, -1), BAD);
        due("i far off", x.row(0, 0, HIGH), NONE);
    }

    private static void promise27() {
        OrderedPeers x = joined(10, 0, 20, 0);
        x.leave(1);
        due("not sound", x.sound(), 0);
        x.all(1);
        due("sound, though LINKS are under way", x.sound(), 1);
        x.all(1000);
        due("sound", x.sound(), 1);
    }

    private static void promise28() {
        OrderedPeers x = joined(10, 0);
        x.peer(20, 1);
        x.peer(5, 0);
        due("sound", x.why(0), NONE);
        due("sound 2", x.why(2), NONE);
        due("what 3", x.why(3), BAD);
        due("what -1", x.why(-1), BAD);
        x.join(1, 0);
        due("COMING is not looked at", x.why(0), NONE);
        x.all(2);
        why("the RIGHT", x, 0, 0, 1);
        x.deliver(0);
        why("no place", x, 1, 1, 2);
        due("what 3, not sound", x.why(3), BAD);
        x.all(1000);
        x.join(2, 0);
        x.all(2);
        why("the LEFT", x, 0, 0, 0);
        x.deliver(0);
        why("the LEFT of level 1", x, 0, 1, 0);
        x.all(1000);
        x.leave(0);
        why("GOING ones are no more there", x, 1, 0, 0);
        x.all(1000);
        due("sound at last", x.why(1), NONE);
    }

    private static void promise29() {
        due("nobody", new OrderedPeers().worst(), NONE);
        OrderedPeers x = five();
        int most = 0;
        for (int i = 0; i < 5; i++) {
            for (int j = 0; j < 5; j++) {
                int k = x.find(i, x.name(j));
                x.all(1000);
                most = Math.max(most, x.ask(k, 3));
            }
        }
        int asks = x.count(3);
        int load = x.told(0, 3);
        due("as the finds had", x.worst(), most);
        due("four at most", x.worst(), 4);
        due("no ask is made", x.count(3), asks);
        due("no load", x.told(0, 3), load);
        x.leave(0);
        due("a change is on", x.worst(), STATE);
        x.all(1000);
        due("of four", x.worst(), 3);
        due("alone", joined(7, 7).worst(), 1);
    }

    private static void promise30() {
        OrderedPeers x = five();
        x.peer(60, 0);
        x.find(0, 10);
        x.put(0, 35, 1);
        x.put(0, 35, 1);
        x.leave(1);
        x.deliver(0);
        int[] counts = {6, 4, 12, 3, 1, 2, 10, 1, 0};
        for (int what = 0; what < counts.length; what++) {
            due("count " + what, x.count(what), counts[what]);
        }
        due("what 9", x.count(9), BAD);
        due("what -1", x.count(-1), BAD);
        x.all(1000);
        x.join(1, 0);
        due("join", x.count(5), 1);
        x.all(1000);
        due("none", x.count(5), 0);
        due("none of its messages", x.count(6), 0);
        due("all done", x.count(4), 3);
    }
}
