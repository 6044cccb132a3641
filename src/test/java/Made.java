/**
 * Objects in a state that many tests begin with, made with few calls: the document promises
 * nothing behind the 512th.
 */
final class Made {
    private Made() {
    }

    /** PEERS of these NAMES and BITS, in turn, all OUT. */
    static OrderedPeers out(int... namesAndBits) {
        OrderedPeers x = new OrderedPeers();
        for (int i = 0; i + 1 < namesAndBits.length; i += 2) {
            x.peer(namesAndBits[i], namesAndBits[i + 1]);
        }
        return x;
    }

    /** PEERS of these NAMES and BITS, in turn, all IN. */
    static OrderedPeers in(int... namesAndBits) {
        OrderedPeers x = out(namesAndBits);
        for (int p = 0; p < namesAndBits.length / 2; p++) {
            x.join(p, 0);
            x.all(1000);
        }
        return x;
    }

    /** NAMES 10 to 50; THE ROWS of LEVEL 1 and on: 10, 40 and 20, 30, 50. */
    static OrderedPeers five() {
        return in(10, 0, 20, 1, 30, 1, 40, 0, 50, 1);
    }

    /**
     * NAMES 0, 1, .., all IN. At each LEVEL a PEER has those next to it at LEVEL 0 or nobody,
     * so that a message goes one NAME at a time.
     */
    static OrderedPeers chain(int n) {
        OrderedPeers x = new OrderedPeers();
        for (int p = 0; p < n; p++) {
            x.peer(p, Integer.reverse(p) >>> 27);
            x.join(p, Math.max(p - 1, 0));
            x.all(1000);
        }
        return x;
    }

    /** 160 ASKS from a PEER, none of which has come anywhere. */
    static void makeAllAsks(OrderedPeers x, int from) {
        for (int k = x.count(3); k < 160; k++) {
            x.find(from, k);
        }
    }

    /** Lets a CHANGE come to its end, while the messages of so many ASKS stay as the first. */
    static void endChangeBehind(OrderedPeers x, int asks) {
        int came = 0;
        while (came < 400 && x.deliver(asks) != OrderedPeers.BAD) {
            came++;
        }
    }
}
