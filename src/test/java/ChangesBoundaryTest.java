/** The boundary cases that the third part of "Terms" names: join, LINKED, SEEK, LINK, leave, again. */
public final class ChangesBoundaryTest {
    private static final int BAD = OrderedPeers.BAD, STATE = OrderedPeers.STATE, NONE = OrderedPeers.NONE;
    private static final int LEFT = 0, RIGHT = 1;
    private static final int OUT = 0, COMING = 1, IN = 2, GOING = 3;
    private static final int JOIN = 5, GIVE = 6, LINK = 7, SEEK = 8, TELL = 9, HAND = 10;

    public static void main(String[] args) throws Exception {
        Sentences.run(ChangesBoundaryTest.class);
    }

    private static void message(Check check, OrderedPeers x, int i, int sort, int to, int level) {
        check.due("message " + i + ", its sort", x.message(i, 0), sort);
        check.due("message " + i + ", its PEER", x.message(i, 1), to);
        check.due("message " + i + ", its LEVEL", x.message(i, 3), level);
    }

    private static void place(Check check, OrderedPeers x, int p, int level, int left, int right) {
        check.due("LEFT of " + p + " at " + level, x.beside(p, level, LEFT), left);
        check.due("RIGHT of " + p + " at " + level, x.beside(p, level, RIGHT), right);
    }

    private static void isOver(Check check, OrderedPeers x) {
        check.due("no CHANGE is on", x.count(5), 0);
        check.due("no message of one", x.count(6), 0);
        check.due("sound", x.sound(), 1);
    }

    // ---- one at a time

    @Says(in = "Terms", value = "one is on at a time, until none of its messages (JOIN, GIVE, LINK, SEEK, TELL, HAND) is under way")
    static void oneAtATime(Check check) {
        for (int kind = 1; kind <= 3; kind++) {
            OrderedPeers x = Made.in(10, 0, 20, 4);
            x.peer(30, 6);
            int begun = kind == 1 ? x.join(2, 0) : kind == 2 ? x.leave(1) : x.again(1, 4);
            check.due("it begins", begun, 1);
            int messages = 0;
            while (messages < 100 && x.count(6) > 0) {
                check.due("the CHANGE that is on", x.count(5), kind);
                check.due("join", x.join(2, 0), STATE);
                check.due("leave", x.leave(0), STATE);
                check.due("again", x.again(0, 1), STATE);
                x.all(1);
                messages++;
            }
            isOver(check, x);
            check.due("the next one", x.leave(0), 1);
        }
    }

    @Says(in = "Terms", value = "until none of its messages (JOIN, GIVE, LINK, SEEK, TELL, HAND) is under way")
    static void theHandIsTheLastOne(Check check) {
        OrderedPeers x = Made.in(10, 0, 20, 1);
        x.put(0, 20, 5);
        x.all(1000);
        x.leave(1);
        x.deliver(0);
        message(check, x, 0, HAND, 0, NONE);
        check.due("leave is on", x.count(5), 2);
        check.due("one message of it", x.count(6), 1);
        check.due("GOING", x.told(1, 0), GOING);
        check.due("the HAND", x.deliver(0), HAND);
        check.due("OUT", x.told(1, 0), OUT);
        isOver(check, x);
    }

    @Says(in = "Terms", value = "until none of its messages (JOIN, GIVE, LINK, SEEK, TELL, HAND) is under way")
    static void theLinkIsTheLastOne(Check check) {
        OrderedPeers x = Made.in(10, 0);
        x.peer(20, 1);
        x.join(1, 0);
        x.all(2);
        check.due("the SEEK", x.deliver(1), SEEK);
        check.due("the TELL", x.deliver(1), TELL);
        check.due("join is on", x.count(5), 1);
        check.due("the LINK", x.deliver(0), LINK);
        isOver(check, x);
    }

    @Says(in = "Terms", value = "until none of its messages (JOIN, GIVE, LINK, SEEK, TELL, HAND) is under way")
    static void anAskDoesNotHoldAChange(Check check) {
        OrderedPeers x = Made.in(10, 0, 20, 1);
        x.find(0, 20);
        x.put(0, 20, 5);
        x.leave(1);
        check.due("the LINK", x.deliver(2), LINK);
        isOver(check, x);
        check.due("the ASKS are under way", x.count(2), 2);
        check.due("the PEER that has left", x.told(1, 0), OUT);
        check.due("the next CHANGE", x.join(1, 0), 1);
    }

    // ---- join

    @Says(in = "Terms", value = "join: u becomes COMING; a JOIN is sent to v, AIMING at u's NAME.")
    static void theJoinGoesToV(Check check) {
        OrderedPeers x = Made.chain(4);
        x.peer(100, 0);
        check.due("by way of the first", x.join(4, 0), 1);
        check.due("COMING", x.told(4, 0), COMING);
        for (int at = 0; at < 4; at++) {
            message(check, x, 0, JOIN, at, NONE);
            check.due("one message alone", x.count(2), 1);
            x.deliver(0);
        }
        message(check, x, 0, GIVE, 4, NONE);
    }

    @Says(in = "Terms", value = "if w's NAME is below u's, with w as LEFT, w's RIGHT of LEVEL 0 as RIGHT, and those PAIRS of w whose KEYS are not below u's NAME")
    static void whatOneBelowGives(Check check) {
        OrderedPeers x = Made.in(10, 0, 30, 1);
        for (int key = 19; key <= 21; key++) {
            x.put(0, key, key);
        }
        x.put(0, 5, 5);
        x.all(1000);
        x.peer(20, 2);
        x.join(2, 0);
        x.all(2);
        place(check, x, 2, 0, 0, 1);
        check.due("given", x.told(2, 4), 2);
        check.due("u's NAME is given", x.key(2, 0), 20);
        check.due("above it too", x.key(2, 1), 21);
        check.due("held back", x.told(0, 4), 2);
        check.due("below u's NAME", x.key(0, 1), 19);
        check.due("below all NAMES", x.key(0, 0), 5);
    }

    @Says(in = "Terms", value = "with w as LEFT, w's RIGHT of LEVEL 0 as RIGHT")
    static void oneBelowWithoutARight(Check check) {
        OrderedPeers x = Made.in(10, 0);
        x.peer(20, 0);
        x.join(1, 0);
        x.all(2);
        place(check, x, 1, 0, 0, NONE);
    }

    @Says(in = "Terms", value = "else with nobody, w, and those whose KEYS are below w's NAME; w has these PAIRS no more")
    static void whatOneAboveGives(Check check) {
        OrderedPeers x = Made.in(30, 0);
        int[] keys = {5, 10, 29, 30, 31};
        for (int key : keys) {
            x.put(0, key, key);
        }
        x.all(1000);
        x.peer(10, 1);
        x.join(1, 0);
        x.all(1);
        check.due("w has these no more", x.told(0, 4), 2);
        check.due("u has none yet", x.told(1, 4), 0);
        check.due("w's NAME is held back", x.key(0, 0), 30);
        check.due("with its VALUE", x.kept(0, 0), 30);
        check.due("above it too", x.key(0, 1), 31);
        check.due("with its VALUE", x.kept(0, 1), 31);
        message(check, x, 0, GIVE, 1, NONE);
        x.all(1);
        place(check, x, 1, 0, NONE, 0);
        check.due("given", x.told(1, 4), 3);
        check.due("below u's NAME", x.key(1, 0), 5);
        check.due("next below w's NAME", x.kept(1, 2), 29);
    }

    @Says(in = "Terms", value = "GIVE: u becomes IN, has that PLACE of LEVEL 0 and no others, and those PAIRS (and none that it had)")
    static void whatTheGiveBrings(Check check) {
        OrderedPeers x = Made.in(10, 0, 20, 0);
        x.put(0, 20, 5);
        x.all(1000);
        x.leave(1);
        x.all(1000);
        check.due("it had PLACES, and has none", x.told(1, 2), 0);
        x.put(0, 20, 6);
        x.all(1000);
        x.join(1, 0);
        x.all(1);
        check.due("COMING, without PLACES", x.told(1, 2), 0);
        check.due("GIVE", x.deliver(0), GIVE);
        check.due("IN", x.told(1, 0), IN);
        check.due("one PLACE", x.told(1, 2), 1);
        check.due("no PLACE of LEVEL 1", x.beside(1, 1, LEFT), STATE);
        check.due("one PAIR", x.told(1, 4), 1);
        check.due("the one that was given", x.kept(1, 0), 6);
    }

    @Says(in = "Terms", value = "If nobody is IN, u is IN at once, with a PLACE of LEVEL 0 with nobody, no PAIRS.")
    static void theFirstIsInAtOnce(Check check) {
        OrderedPeers x = Made.out(10, 0, 20, 0);
        for (int turn = 0; turn < 2; turn++) {
            check.due("join", x.join(1, 1), 1);
            check.due("IN", x.told(1, 0), IN);
            check.due("one PLACE", x.told(1, 2), 1);
            place(check, x, 1, 0, NONE, NONE);
            check.due("no PAIRS", x.told(1, 4), 0);
            check.due("no messages", x.count(2), 0);
            isOver(check, x);
            x.put(1, 5, 5);
            x.all(1000);
            check.due("leave", x.leave(1), 1);
        }
    }

    // ---- LINKED

    @Says(in = "Terms", value = "a LINK is sent to its LEFT there, if any, whose RIGHT of l becomes u, then to its RIGHT, if any, whose LEFT becomes u")
    static void linkedBetweenTwo(Check check) {
        OrderedPeers x = Made.in(10, 0, 30, 1);
        x.peer(20, 2);
        x.join(2, 0);
        x.all(2);
        check.due("three messages", x.count(2), 3);
        message(check, x, 0, LINK, 0, 0);
        message(check, x, 1, LINK, 1, 0);
        message(check, x, 2, SEEK, 1, 0);
        x.all(2);
        place(check, x, 0, 0, NONE, 2);
        place(check, x, 1, 0, 2, NONE);
    }

    @Says(in = "Terms", value = "Then, if it has a LEFT or RIGHT there, and l is below 8, a SEEK of l is sent to the RIGHT; without one to the LEFT.")
    static void linkedAtTheEnds(Check check) {
        OrderedPeers x = Made.in(10, 0, 30, 1);
        x.peer(5, 2);
        x.peer(40, 4);
        x.join(2, 0);
        x.all(2);
        check.due("at the left end", x.count(2), 2);
        message(check, x, 0, LINK, 0, 0);
        message(check, x, 1, SEEK, 0, 0);
        x.all(1000);
        x.join(3, 1);
        x.all(2);
        check.due("at the right end", x.count(2), 2);
        message(check, x, 0, LINK, 1, 0);
        message(check, x, 1, SEEK, 1, 0);
        x.all(1000);
        isOver(check, x);
    }

    @Says(in = "Terms", value = "Then, if it has a LEFT or RIGHT there, and l is below 8, a SEEK of l is sent to the RIGHT")
    static void noSeekOf8(Check check) {
        OrderedPeers x = Made.in(10, 0, 30, 0);
        x.peer(20, 0);
        x.join(2, 0);
        int seeks = 0;
        int highest = NONE;
        for (int i = 0; i < 60 && x.count(2) > 0; i++) {
            if (x.message(0, 0) == SEEK) {
                seeks++;
                highest = Math.max(highest, x.message(0, 3));
            }
            x.deliver(0);
        }
        check.due("a SEEK of each LEVEL below 8", seeks, 8);
        check.due("the highest of them", highest, 7);
        place(check, x, 2, 8, 0, 1);
        place(check, x, 0, 8, NONE, 2);
        place(check, x, 1, 8, 2, NONE);
        isOver(check, x);
    }

    @Says(in = "Terms", value = "Then, if it has a LEFT or RIGHT there")
    static void linkedWithNobodySendsNothing(Check check) {
        OrderedPeers x = Made.in(10, 0);
        x.peer(20, 1);
        x.join(1, 0);
        x.all(4);
        message(check, x, 0, TELL, 1, 1);
        x.deliver(0);
        check.due("nothing is sent", x.count(2), 0);
        place(check, x, 1, 1, NONE, NONE);
        isOver(check, x);
    }

    // ---- SEEK

    @Says(in = "Terms", value = "if z's first l + 1 BITS are u's, a TELL is sent to u: z as RIGHT, z's LEFT of l + 1 as LEFT (nobody, if z has no such PLACE)")
    static void seekToTheRightFinds(Check check) {
        OrderedPeers x = Made.in(20, 0);
        x.peer(10, 0);
        x.join(1, 0);
        x.all(2);
        check.due("SEEK, ahead of LINK", x.deliver(1), SEEK);
        check.due("z has no such PLACE", x.told(0, 2), 1);
        message(check, x, 1, TELL, 1, 1);
        x.deliver(1);
        place(check, x, 1, 1, NONE, 0);
        x = Made.in(5, 0, 7, 1, 20, 0);
        x.peer(10, 0);
        x.join(3, 1);
        x.all(5);
        message(check, x, 0, TELL, 3, 1);
        x.deliver(0);
        place(check, x, 3, 1, 0, 2);
    }

    @Says(in = "Terms", value = "if z's first l + 1 BITS are u's")
    static void theLastBitIsUnlike(Check check) {
        OrderedPeers x = Made.in(20, 127);
        x.peer(10, 255);
        x.join(1, 0);
        x.all(1000);
        check.due("alike up to LEVEL 7", x.beside(1, 7, RIGHT), 0);
        place(check, x, 1, 8, NONE, NONE);
        place(check, x, 0, 8, NONE, NONE);
        check.due("all PLACES", x.told(1, 2), 9);
        isOver(check, x);
    }

    @Says(in = "Terms", value = "else the SEEK is sent on to z's RIGHT of l; has it none, a SEEK to the left is sent to u's LEFT of l; has u none, a TELL of nobody")
    static void seekToTheRightFindsNobody(Check check) {
        OrderedPeers x = Made.in(20, 1, 30, 3);
        x.peer(10, 0);
        x.join(2, 0);
        x.all(3);
        message(check, x, 0, SEEK, 0, 0);
        x.deliver(0);
        message(check, x, 0, SEEK, 1, 0);
        x.deliver(0);
        message(check, x, 0, TELL, 2, 1);
        x.deliver(0);
        place(check, x, 2, 1, NONE, NONE);
        isOver(check, x);
        x.peer(25, 2);
        x.join(3, 0);
        x.all(4);
        check.due("JOIN, GIVE, two LINKS have come", x.count(2), 1);
        message(check, x, 0, SEEK, 1, 0);
        x.deliver(0);
        message(check, x, 0, SEEK, 0, 0);
        x.deliver(0);
        message(check, x, 0, SEEK, 2, 0);
        x.deliver(0);
        message(check, x, 0, TELL, 3, 1);
        x.deliver(0);
        place(check, x, 3, 1, 2, NONE);
    }

    @Says(in = "Terms", value = "Sent to the left likewise: z as LEFT, z's RIGHT of l + 1 as RIGHT; on to z's LEFT of l; none: a TELL of nobody.")
    static void seekToTheLeft(Check check) {
        OrderedPeers x = Made.in(10, 0, 20, 1);
        x.peer(30, 0);
        x.join(2, 0);
        x.all(3);
        message(check, x, 0, LINK, 1, 0);
        message(check, x, 1, SEEK, 1, 0);
        x.all(2);
        message(check, x, 0, SEEK, 0, 0);
        x.deliver(0);
        message(check, x, 0, TELL, 2, 1);
        x.deliver(0);
        place(check, x, 2, 1, 0, NONE);
        x.all(1000);
        isOver(check, x);
        x = Made.in(10, 0, 20, 2);
        x.peer(30, 1);
        x.join(2, 1);
        x.all(4);
        message(check, x, 0, SEEK, 0, 0);
        x.deliver(0);
        message(check, x, 0, TELL, 2, 1);
        x.deliver(0);
        place(check, x, 2, 1, NONE, NONE);
        isOver(check, x);
    }

    @Says(in = "Terms", value = "Sent to the left likewise: z as LEFT")
    static void seekToTheLeftAtOneThatHasNoSuchPlace(Check check) {
        OrderedPeers x = Made.in(10, 0);
        x.peer(20, 0);
        x.join(1, 0);
        x.all(2);
        check.due("SEEK, ahead of LINK", x.deliver(1), SEEK);
        check.due("z has no such PLACE", x.told(0, 2), 1);
        check.due("TELL", x.deliver(1), TELL);
        place(check, x, 1, 1, 0, NONE);
    }

    // ---- LINK

    @Says(in = "Terms", value = "A LINK of l at z of nobody, where it has no PLACE of l, does nothing")
    static void aLinkOfNobodyWhereThereIsNoPlace(Check check) {
        OrderedPeers x = Made.in(10, 0, 20, 0);
        x.leave(1);
        x.deliver(0);
        check.due("alone by the LINK of 0", x.told(0, 2), 1);
        for (int level = 1; level <= 8; level++) {
            message(check, x, 0, LINK, 0, level);
            check.due("it comes", x.deliver(0), LINK);
            check.due("it makes no PLACE", x.told(0, 2), 1);
            check.due("none of " + level, x.beside(0, level, RIGHT), STATE);
        }
        isOver(check, x);
    }

    @Says(in = "Terms", value = "else z has a PLACE of l (a new one with nobody, if it had none), and that LEFT, RIGHT becomes the one told")
    static void aLinkMakesAPlace(Check check) {
        OrderedPeers x = linksFromTheTop();
        message(check, x, 2, LINK, 0, 2);
        x.deliver(2);
        check.due("PLACES of 0, 2, 3", x.told(0, 2), 3);
        check.due("none of 1", x.beside(0, 1, RIGHT), STATE);
        place(check, x, 0, 2, NONE, 1);
        place(check, x, 0, 3, NONE, NONE);
        x.deliver(1);
        check.due("PLACES of 0 to 3", x.told(0, 2), 4);
        place(check, x, 0, 1, NONE, 1);
    }

    @Says(in = "Terms", value = "it has a PLACE of l + 1, if l is below 8 (with nobody, if it had none)")
    static void aPlaceAboveThatWasThereStays(Check check) {
        OrderedPeers x = linksFromTheTop();
        x.deliver(2);
        x.deliver(1);
        place(check, x, 0, 2, NONE, 1);
        x.deliver(0);
        place(check, x, 0, 1, NONE, 1);
        place(check, x, 0, 2, NONE, 1);
        isOver(check, x);
    }

    /** PEER 0 was alone; PEER 1 has joined, alike in 2 BITS, and its LINKS of 0, 1, 2 are all under way. */
    private static OrderedPeers linksFromTheTop() {
        OrderedPeers x = Made.in(10, 0);
        x.peer(20, 4);
        x.join(1, 0);
        x.all(2);
        x.deliver(1);
        x.deliver(1);
        x.deliver(2);
        x.deliver(2);
        x.deliver(3);
        x.deliver(3);
        return x;
    }

    @Says(in = "Terms", value = "if it had nobody there before, and has now, it has a PLACE of l + 1, if l is below 8")
    static void noPlaceOf9(Check check) {
        OrderedPeers x = Made.in(10, 0);
        x.peer(20, 0);
        x.join(1, 0);
        x.all(26);
        message(check, x, 0, LINK, 0, 8);
        check.due("a PLACE of 8 by the LINK of 7", x.told(0, 2), 9);
        place(check, x, 0, 8, NONE, NONE);
        x.deliver(0);
        place(check, x, 0, 8, NONE, 1);
        check.due("no tenth PLACE", x.told(0, 2), 9);
        check.due("nothing is under way", x.count(2), 0);
    }

    @Says(in = "Terms", value = "if it has nobody there, it has no PLACES above l")
    static void nobodyThereNoPlacesAbove(Check check) {
        for (int level = 0; level <= 8; level++) {
            OrderedPeers x = Made.in(10, 0, 20, 0);
            x.leave(1);
            check.due("LINK of " + level, x.deliver(level), LINK);
            check.due("PLACES", x.told(0, 2), level + 1);
            place(check, x, 0, level, NONE, NONE);
            x.all(1000);
            isOver(check, x);
        }
    }

    @Says(in = "Terms", value = "if it has nobody there, it has no PLACES above l")
    static void somebodyOnTheOtherSide(Check check) {
        OrderedPeers x = Made.in(10, 0, 20, 0, 30, 0);
        x.leave(2);
        x.deliver(0);
        place(check, x, 1, 0, 0, NONE);
        check.due("the PLACES above stay", x.told(1, 2), 9);
        x.all(1000);
        check.due("all of them", x.told(1, 2), 9);
        place(check, x, 1, 8, 0, NONE);
        isOver(check, x);
    }

    // ---- leave

    @Says(in = "Terms", value = "for each LEVEL of its PLACES, from 0 on, a LINK to its LEFT, if any, whose RIGHT becomes u's RIGHT (or nobody), then one to its RIGHT, if any, whose LEFT becomes u's LEFT")
    static void linksOfOneThatLeaves(Check check) {
        OrderedPeers x = Made.in(10, 0, 20, 0, 30, 0);
        check.due("from the middle", x.leave(1), 1);
        check.due("two LINKS of each LEVEL", x.count(2), 18);
        for (int level = 0; level <= 8; level++) {
            message(check, x, 2 * level, LINK, 0, level);
            message(check, x, 2 * level + 1, LINK, 2, level);
        }
        x.all(1000);
        place(check, x, 0, 8, NONE, 2);
        place(check, x, 2, 8, 0, NONE);
        check.due("from the left end", x.leave(0), 1);
        check.due("one LINK of each LEVEL", x.count(2), 9);
        message(check, x, 0, LINK, 2, 0);
        x.all(1);
        place(check, x, 2, 0, NONE, NONE);
    }

    @Says(in = "Terms", value = "for each LEVEL of its PLACES, from 0 on")
    static void oneThatLeavesAlone(Check check) {
        OrderedPeers x = Made.in(10, 0);
        check.due("leave", x.leave(0), 1);
        check.due("OUT at once", x.told(0, 0), OUT);
        check.due("without PLACES", x.told(0, 2), 0);
        check.due("nothing is sent", x.count(2), 0);
        isOver(check, x);
    }

    @Says(in = "Terms", value = "Then, if it has PAIRS, they go by HAND to its LEFT of LEVEL 0, or its RIGHT, to which they come")
    static void theHandOfOneThatLeaves(Check check) {
        OrderedPeers x = Made.in(10, 0, 20, 1, 30, 2);
        x.leave(1);
        check.due("without PAIRS: two LINKS", x.count(2), 2);
        x.all(1000);
        x.join(1, 0);
        x.all(1000);
        x.put(0, 20, 5);
        x.all(1000);
        x.leave(1);
        check.due("with PAIRS: one more", x.count(2), 3);
        message(check, x, 2, HAND, 0, NONE);
        check.due("they have gone", x.told(1, 4), 0);
        check.due("they have not come", x.told(0, 4), 0);
        x.all(1000);
        check.due("they have come to the LEFT", x.kept(0, 0), 5);
        x.leave(0);
        check.due("two LINKS, and the HAND", x.count(2), 3);
        message(check, x, 2, HAND, 2, NONE);
        x.all(1000);
        check.due("without a LEFT to the RIGHT", x.kept(2, 0), 5);
    }

    @Says(in = "Terms", value = "they go by HAND to its LEFT of LEVEL 0, or its RIGHT, to which they come")
    static void theHandGoesToThoseOfLevel0(Check check) {
        OrderedPeers x = Made.in(10, 0, 20, 1, 30, 0);
        x.put(0, 30, 5);
        x.put(0, 10, 6);
        x.all(1000);
        x.leave(2);
        message(check, x, x.count(2) - 1, HAND, 1, NONE);
        x.all(1000);
        x.join(2, 0);
        x.all(1000);
        check.due("given back to it", x.kept(2, 0), 5);
        x.leave(0);
        message(check, x, x.count(2) - 1, HAND, 1, NONE);
        x.all(1000);
        check.due("they have come to the RIGHT of LEVEL 0", x.kept(1, 0), 6);
    }

    @Says(in = "Terms", value = "Then, if it has PAIRS, they go by HAND")
    static void sixteenPairsGoAndCome(Check check) {
        OrderedPeers x = Made.in(100, 0);
        for (int key = 15; key >= 0; key--) {
            x.put(0, key, key + 1);
        }
        x.all(1000);
        x.peer(8, 0);
        x.peer(0, 1);
        x.join(1, 0);
        x.all(1000);
        check.due("all were given", x.told(1, 4), 16);
        check.due("none was held back", x.told(0, 4), 0);
        x.join(2, 1);
        x.all(1000);
        check.due("half of them were given", x.told(2, 4), 8);
        check.due("half were held back", x.told(1, 4), 8);
        x.leave(1);
        x.all(1000);
        for (int i = 0; i < 16; i++) {
            check.due("among those that it had, by KEYS", x.key(2, i), i);
            check.due("with its VALUE", x.kept(2, i), i + 1);
        }
    }

    @Says(in = "Terms", value = "with nobody there, they are no more")
    static void pairsWithNobodyToHandThemTo(Check check) {
        OrderedPeers x = Made.in(10, 0);
        x.put(0, 10, 5);
        x.all(1000);
        check.due("leave", x.leave(0), 1);
        check.due("nothing is sent", x.count(2), 0);
        check.due("no PAIRS", x.told(0, 4), 0);
        x.join(0, 0);
        x.get(0, 10);
        x.all(1000);
        check.due("not found", x.ask(1, 2), NONE);
        x.peer(20, 0);
        x.join(1, 0);
        x.all(1000);
        check.due("nor given to the next one", x.told(1, 4), 0);
    }

    @Says(in = "Terms", value = "When the CHANGE is over u is OUT, without PLACES.")
    static void placesOfOneThatLeaves(Check check) {
        OrderedPeers x = Made.in(10, 0, 20, 0);
        x.leave(1);
        x.all(8);
        check.due("GOING", x.told(1, 0), GOING);
        check.due("its PLACES", x.told(1, 2), 9);
        place(check, x, 1, 0, 0, NONE);
        x.all(1);
        check.due("OUT", x.told(1, 0), OUT);
        check.due("no PLACES", x.told(1, 2), 0);
        check.due("none of 0", x.beside(1, 0, LEFT), STATE);
    }

    // ---- again

    @Says(in = "Terms", value = "again: LINKS as in leave, but of LEVELS 1 and on; u has these PLACES no more.")
    static void linksOfOneThatDrawsAgain(Check check) {
        OrderedPeers x = Made.in(10, 0, 20, 0, 30, 0);
        x.put(0, 20, 5);
        x.all(1000);
        check.due("again", x.again(1, 255), 1);
        check.due("two LINKS of each LEVEL but 0, no HAND", x.count(2), 16);
        message(check, x, 0, LINK, 0, 1);
        message(check, x, 1, LINK, 2, 1);
        message(check, x, 15, LINK, 2, 8);
        check.due("the PLACE of 0 alone", x.told(1, 2), 1);
        place(check, x, 1, 0, 0, 2);
        check.due("none of 1", x.beside(1, 1, LEFT), STATE);
        check.due("its PAIRS", x.told(1, 4), 1);
        check.due("IN", x.told(1, 0), IN);
    }

    @Says(in = "Terms", value = "As soon as none of these LINKS is under way (at once, if there is none), u has the new BITS")
    static void whenTheBitsAreNew(Check check) {
        OrderedPeers x = Made.in(10, 0, 20, 0, 30, 0);
        x.find(0, 10);
        x.again(1, 255);
        for (int links = 16; links > 0; links--) {
            check.due("old BITS, " + links + " LINKS", x.told(1, 1), 0);
            check.due("a LINK", x.deliver(links), LINK);
        }
        check.due("new BITS, the ASK being under way", x.told(1, 1), 255);
        check.due("the ASK and a SEEK", x.count(2), 2);
        message(check, x, 1, SEEK, 2, 0);
        x.all(1000);
        isOver(check, x);
    }

    @Says(in = "Terms", value = "(at once, if there is none)")
    static void againWithoutLinks(Check check) {
        OrderedPeers x = Made.in(10, 0, 20, 1);
        check.due("again", x.again(0, 2), 1);
        check.due("new BITS", x.told(0, 1), 2);
        check.due("one message", x.count(2), 1);
        message(check, x, 0, SEEK, 1, 0);
        check.due("again is on", x.count(5), 3);
        x.all(1000);
        isOver(check, x);
    }

    @Says(in = "Terms", value = "and, as if it were LINKED at 0 just then, SEEKS from LEVEL 0")
    static void againAtTheRightEnd(Check check) {
        OrderedPeers x = Made.in(10, 0, 20, 1);
        x.again(1, 0);
        check.due("no LINKS of 0", x.count(2), 1);
        message(check, x, 0, SEEK, 0, 0);
        x.all(1000);
        check.due("alike now", x.told(1, 2), 9);
        isOver(check, x);
    }

    @Says(in = "Terms", value = "(it has a PLACE of LEVEL 1 only by TELL; alone at LEVEL 0 nothing is sent)")
    static void aPlaceOf1OnlyByTell(Check check) {
        OrderedPeers x = Made.in(10, 0, 20, 1);
        x.again(0, 2);
        check.due("before SEEK", x.told(0, 2), 1);
        x.all(1);
        check.due("before TELL", x.beside(0, 1, LEFT), STATE);
        check.due("TELL", x.deliver(0), TELL);
        check.due("by TELL", x.told(0, 2), 2);
        place(check, x, 0, 1, NONE, NONE);
    }

    @Says(in = "Terms", value = "alone at LEVEL 0 nothing is sent")
    static void againAlone(Check check) {
        OrderedPeers x = Made.in(10, 0);
        check.due("again", x.again(0, 255), 1);
        check.due("new BITS", x.told(0, 1), 255);
        check.due("nothing is sent", x.count(2), 0);
        check.due("one PLACE", x.told(0, 2), 1);
        isOver(check, x);
        check.due("once more", x.again(0, 0), 1);
        check.due("none behind it", x.deliver(0), BAD);
    }
}
