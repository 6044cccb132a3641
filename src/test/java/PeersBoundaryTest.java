/** The boundary cases that "What it is" and the first part of "Terms" name: PEERS, THE ROW, SOUND, KEYS. */
public final class PeersBoundaryTest {
    private static final int BAD = OrderedPeers.BAD, STATE = OrderedPeers.STATE;
    private static final int FULL = OrderedPeers.FULL, NONE = OrderedPeers.NONE;
    private static final int LOW = Integer.MIN_VALUE, HIGH = Integer.MAX_VALUE;
    private static final int LEFT = 0, RIGHT = 1;
    private static final int OUT = 0, COMING = 1, IN = 2, GOING = 3;

    public static void main(String[] args) throws Exception {
        Sentences.run(PeersBoundaryTest.class);
    }

    @Says(in = "What it is", value = "An object is used for at most 512 calls after it has been made")
    static void the512thCallIsAnswered(Check check) {
        OrderedPeers x = Made.chain(5);
        int calls = 5 * 3;
        for (int i = 0; i < 96; i++) {
            x.leave(4);
            x.all(1000);
            x.join(4, 0);
            x.all(1000);
            calls += 4;
        }
        for (int k = 0; k < 55; k++) {
            x.find(4, 0);
            x.all(1000);
            calls += 2;
        }
        check.due("calls as yet", calls, 509);
        check.due("the 510th", x.find(0, 4), 55);
        check.due("the 511th", x.all(1000), 5);
        check.due("the 512th", x.ask(55, 2), 4);
    }

    @Says(in = "Terms", value = "PEERS (32) are numbered as they come")
    static void thirtyTwoPeers(Check check) {
        OrderedPeers x = new OrderedPeers();
        for (int i = 0; i < 32; i++) {
            check.due("number " + i, i % 2 == 0 ? x.peer(100 - i, i) : x.drawn(100 - i), i);
        }
        check.due("the 33rd", x.peer(1, 0), FULL);
        check.due("the 33rd, drawn", x.drawn(1), FULL);
        check.due("32 as before", x.count(0), 32);
        check.due("the last one", x.name(31), 69);
        check.due("none behind it", x.told(32, 0), BAD);
    }

    @Says(in = "Terms", value = "PEERS (32) are numbered as they come")
    static void thirtyTwoPeersIn(Check check) {
        OrderedPeers x = Made.chain(32);
        check.due("all are IN", x.count(1), 32);
        check.due("sound", x.sound(), 1);
        check.due("the last of THE ROW", x.row(0, 0, 31), 31);
        check.due("nobody behind it", x.row(0, 0, 32), NONE);
    }

    @Says(in = "Terms", value = "with a NAME (an int, all unlike)")
    static void anyIntIsAName(Check check) {
        OrderedPeers x = new OrderedPeers();
        int[] names = {HIGH, 0, LOW, -1, 1, LOW + 1, HIGH - 1};
        for (int i = 0; i < names.length; i++) {
            check.due("peer " + names[i], x.peer(names[i], 0), i);
            check.due("name of " + i, x.name(i), names[i]);
        }
        for (int name : names) {
            check.due("again " + name, x.peer(name, 1), BAD);
            check.due("drawn again " + name, x.drawn(name), BAD);
        }
        check.due("no more of them", x.count(0), names.length);
    }

    @Says(in = "Terms", value = "with a NAME (an int, all unlike)")
    static void theOutermostNamesAreInOrder(Check check) {
        OrderedPeers x = Made.in(HIGH, 0, LOW, 0, 0, 0);
        int[] row = {1, 2, 0};
        for (int i = 0; i < row.length; i++) {
            check.due("THE ROW, " + i, x.row(0, 8, i), row[i]);
        }
        check.due("RIGHT of the least", x.beside(1, 0, RIGHT), 2);
        check.due("LEFT of the greatest", x.beside(0, 0, LEFT), 2);
        check.due("sound", x.sound(), 1);
    }

    @Says(in = "Terms", value = "8 BITS (the first is the lowest)")
    static void theFirstBitIsTheLowest(Check check) {
        for (int bit = 0; bit < 8; bit++) {
            OrderedPeers x = Made.in(1, 0, 2, 1 << bit);
            check.due("alike in " + bit + " bits", x.row(0, bit, 1), 1);
            check.due("unlike in bit " + bit, x.row(0, bit + 1, 1), NONE);
            check.due("the other alone too", x.row(1, bit + 1, 0), 1);
        }
    }

    @Says(in = "Terms", value = "A PEER is OUT (0, at first), COMING (1), IN (2) or GOING (3).")
    static void asWhatAPeerIs(Check check) {
        OrderedPeers x = Made.in(10, 0);
        check.due("number of another", x.peer(20, 0), 1);
        check.due("at first", x.told(1, 0), OUT);
        x.join(1, 0);
        check.due("joining", x.told(1, 0), COMING);
        x.all(1);
        check.due("before GIVE comes", x.told(1, 0), COMING);
        x.all(1);
        check.due("when GIVE has come", x.told(1, 0), IN);
        x.all(1000);
        x.leave(1);
        check.due("leaving", x.told(1, 0), GOING);
        x.all(8);
        check.due("one LINK is under way", x.told(1, 0), GOING);
        x.all(1);
        check.due("it has left", x.told(1, 0), OUT);
    }

    @Says(in = "Terms", value = "THE ROW of a LEVEL i (0 to 8) of a PEER: all PEERS that are IN whose first i BITS are its own, by NAMES.")
    static void levelsOfTheRow(Check check) {
        OrderedPeers x = Made.in(30, 0, 10, 128, 20, 255, 40, 0);
        int[] all = {1, 2, 0, 3};
        for (int i = 0; i < all.length; i++) {
            check.due("LEVEL 0, " + i, x.row(2, 0, i), all[i]);
        }
        check.due("LEVEL 7, the first", x.row(0, 7, 0), 1);
        check.due("LEVEL 8, the first", x.row(0, 8, 0), 0);
        check.due("LEVEL 8, the second", x.row(0, 8, 1), 3);
        check.due("LEVEL 8, no third", x.row(0, 8, 2), NONE);
        check.due("LEVEL 9", x.row(0, 9, 0), BAD);
        check.due("LEVEL -1", x.row(0, -1, 0), BAD);
    }

    @Says(in = "Terms", value = "all PEERS that are IN whose first i BITS are its own")
    static void onlyThoseThatAreInStandInTheRow(Check check) {
        OrderedPeers x = Made.in(10, 0, 20, 0);
        x.peer(15, 0);
        check.due("OUT", x.row(2, 0, 2), NONE);
        check.due("of one that is OUT, without it", x.row(2, 8, 1), 1);
        x.join(2, 0);
        check.due("COMING", x.row(0, 0, 2), NONE);
        x.all(1000);
        check.due("IN", x.row(0, 0, 1), 2);
        x.leave(2);
        check.due("GOING", x.row(0, 0, 1), 1);
        check.due("GOING, no third", x.row(2, 0, 2), NONE);
    }

    @Says(in = "Terms", value = "a LEFT and a RIGHT there (a PEER, or nobody, each)")
    static void nobodyIsLeftOrRight(Check check) {
        OrderedPeers x = Made.in(10, 0);
        check.due("alone, LEFT", x.beside(0, 0, LEFT), NONE);
        check.due("alone, RIGHT", x.beside(0, 0, RIGHT), NONE);
        x = Made.in(10, 0, 20, 0);
        check.due("LEFT of the first", x.beside(0, 8, LEFT), NONE);
        check.due("RIGHT of the first", x.beside(0, 8, RIGHT), 1);
        check.due("LEFT of the last", x.beside(1, 8, LEFT), 0);
        check.due("RIGHT of the last", x.beside(1, 8, RIGHT), NONE);
    }

    @Says(in = "Terms", value = "has PLACES of the LEVELS 0, 1, .. up to the first at which it is alone in THE ROW")
    static void placesUpToWhereItIsAlone(Check check) {
        for (int bit = 0; bit < 8; bit++) {
            OrderedPeers x = Made.in(1, 0, 2, 1 << bit);
            for (int p = 0; p < 2; p++) {
                check.due("PLACES, unlike in bit " + bit, x.told(p, 2), bit + 2);
                check.due("somebody in the last but one", x.beside(p, bit, 1 - p), 1 - p);
                check.due("nobody in the last, LEFT", x.beside(p, bit + 1, LEFT), NONE);
                check.due("nobody in the last, RIGHT", x.beside(p, bit + 1, RIGHT), NONE);
                check.due("none behind it", x.beside(p, bit + 2, LEFT), bit == 7 ? BAD : STATE);
            }
            check.due("sound", x.sound(), 1);
        }
        OrderedPeers alone = Made.in(1, 0);
        check.due("alone at LEVEL 0", alone.told(0, 2), 1);
        check.due("alone is sound", alone.sound(), 1);
    }

    @Says(in = "Terms", value = "(8, if it never is) and no others")
    static void placesUpTo8(Check check) {
        OrderedPeers x = Made.in(1, 255, 2, 255, 3, 255);
        for (int p = 0; p < 3; p++) {
            check.due("PLACES of " + p, x.told(p, 2), 9);
        }
        check.due("LEFT at 8", x.beside(1, 8, LEFT), 0);
        check.due("RIGHT at 8", x.beside(1, 8, RIGHT), 2);
        check.due("no LEVEL 9", x.beside(1, 9, LEFT), BAD);
        check.due("sound", x.sound(), 1);
        x.leave(1);
        x.all(1000);
        x.leave(2);
        x.all(1000);
        check.due("no others, alone again", x.told(0, 2), 1);
        check.due("sound, alone", x.sound(), 1);
    }

    @Says(in = "Terms", value = "LEFT and RIGHT being those next to it in THE ROW, or nobody")
    static void notSoundByOneSide(Check check) {
        OrderedPeers x = Made.in(10, 0, 20, 1, 30, 2);
        x.leave(1);
        check.due("neither knows", x.sound(), 0);
        x.deliver(0);
        check.due("a RIGHT is as it is to be", x.beside(0, 0, RIGHT), 2);
        check.due("a LEFT is not", x.sound(), 0);
        x.deliver(0);
        check.due("both are", x.sound(), 1);
        x.join(1, 0);
        x.all(2);
        x.deliver(1);
        check.due("a LEFT is as it is to be", x.beside(2, 0, LEFT), 1);
        check.due("a RIGHT is not", x.why(2), RIGHT);
    }

    @Says(in = "Terms", value = "VALUES (longs) are put under KEYS (ints).")
    static void theOutermostKeysAndValues(Check check) {
        OrderedPeers x = Made.in(0, 0);
        int[] keys = {LOW, -1, 0, HIGH};
        long[] values = {Long.MIN_VALUE, Long.MAX_VALUE, -1L, 1L << 32};
        for (int i = 0; i < keys.length; i++) {
            x.put(0, keys[i], values[i]);
            x.get(0, keys[i]);
        }
        x.all(1000);
        for (int i = 0; i < keys.length; i++) {
            check.due("key", x.key(0, i), keys[i]);
            check.due("kept", x.kept(0, i), values[i]);
            check.due("value", x.value(2 * i + 1), values[i]);
        }
    }

    @Says(in = "Terms", value = "Each PEER has PAIRS of KEY and VALUE (KEYS unlike).")
    static void aKeyOnlyOnce(Check check) {
        OrderedPeers x = Made.in(0, 0);
        for (int i = 0; i < 20; i++) {
            x.put(0, 7, i);
        }
        x.all(1000);
        check.due("one PAIR", x.told(0, 4), 1);
        check.due("the last VALUE", x.kept(0, 0), 19);
        check.due("no other", x.key(0, 1), 0);
    }

    @Says(in = "Terms", value = "of the PEERS that are IN that of the greatest NAME not above it; without such the one of the least NAME")
    static void theKeeperAtTheEdges(Check check) {
        OrderedPeers x = Made.in(20, 0, 10, 1, 30, 2);
        int[][] keysAndKeepers = {{LOW, 1}, {9, 1}, {10, 1}, {11, 1}, {19, 1}, {20, 0}, {29, 0}, {30, 2}, {31, 2}, {HIGH, 2}};
        for (int[] one : keysAndKeepers) {
            check.due("keeper of " + one[0], x.keeper(one[0]), one[1]);
        }
        OrderedPeers widest = Made.in(LOW, 0, HIGH, 1);
        check.due("a NAME that is the least int", widest.keeper(LOW), 0);
        check.due("one below the greatest", widest.keeper(HIGH - 1), 0);
        check.due("the greatest", widest.keeper(HIGH), 1);
    }

    @Says(in = "Terms", value = "16 KEYS have ever been put at most.")
    static void sixteenKeysEver(Check check) {
        OrderedPeers x = Made.in(0, 0);
        for (int key = 0; key < 16; key++) {
            check.due("key " + key, x.put(0, key, 1), key);
        }
        x.all(1000);
        check.due("all are kept", x.told(0, 4), 16);
        check.due("the last of them", x.key(0, 15), 15);
        x.leave(0);
        x.join(0, 0);
        check.due("they are no more", x.told(0, 4), 0);
        check.due("but have been put", x.count(7), 16);
        check.due("a 17th", x.put(0, 16, 1), FULL);
        check.due("one of the 16", x.put(0, 15, 1), 16);
    }
}
