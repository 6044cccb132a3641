/**
 * Names kept in order by peers that each know a few others. The promises that the
 * methods keep are numbered in the document (../shared/DOC.md); its words in capitals
 * are used here in the same sense.
 */
public final class OrderedPeers {
    public static final int BAD = -1, STATE = -2, FULL = -3, NONE = -4;

    private static final int MOST_PEERS = 32, MOST_BITS = 255, MOST_KEYS = 16;
    private static final int MOST_ASKS = 160, MOST_TOLD = 40, MOST_AT_ONCE = 1000;
    // one message for each ASK; a CHANGE has two LINKS for each of 9 LEVELS and one more
    private static final int MOST_MESSAGES = MOST_ASKS + 32;
    private static final int TOP_LEVEL = 8, LEVELS = TOP_LEVEL + 1;
    // far above any way that a FIND can take
    private static final int MOST_STEPS = 10000;

    private static final int LEFT = 0, RIGHT = 1, SIDES = 2;
    private static final int PLACE_ITSELF = 2;
    private static final int OUT = 0, COMING = 1, IN = 2, GOING = 3;
    private static final int FIND = 0, SPAN = 1, TALLY = 2, PUT = 3, GET = 4;
    private static final int JOIN = 5, GIVE = 6, LINK = 7, SEEK = 8, TELL = 9, HAND = 10;
    private static final int NO_CHANGE = 0, JOINING = 1, LEAVING = 2, DRAWING_AGAIN = 3;
    private static final int DRAW_FACTOR = 1103515245, DRAW_STEP = 12345;

    private final Peer[] peers = new Peer[MOST_PEERS];
    private int peerCount;
    private final Ask[] asks = new Ask[MOST_ASKS];
    private int askCount;
    private final int[] keysPut = new int[MOST_KEYS];
    private int keyCount;
    private final Line line = new Line();
    private final Change change = new Change();
    private int draw = 1;

    /** PAIRS of KEY and VALUE, kept by KEYS. */
    private static final class Pairs {
        final int[] keys = new int[MOST_KEYS];
        final long[] values = new long[MOST_KEYS];
        int size;

        /** How many KEYS are below this one: where it stands, if it is here. */
        int below(int key) {
            int i = 0;
            while (i < size && keys[i] < key) {
                i++;
            }
            return i;
        }

        boolean holds(int key) {
            int i = below(key);
            return i < size && keys[i] == key;
        }

        int keyAt(int i) {
            return i >= 0 && i < size ? keys[i] : 0;
        }

        long valueAt(int i) {
            return i >= 0 && i < size ? values[i] : 0L;
        }

        void set(int key, long v) {
            int at = below(key);
            if (at < size && keys[at] == key) {
                values[at] = v;
                return;
            }
            if (size >= MOST_KEYS) {
                return;
            }
            for (int i = size; i > at; i--) {
                keys[i] = keys[i - 1];
                values[i] = values[i - 1];
            }
            keys[at] = key;
            values[at] = v;
            size++;
        }

        /** Takes those that stand at first, up to (not with) end, over to the other. */
        void moveTo(Pairs other, int first, int end) {
            if (first < 0 || end > size || first >= end) {
                return;
            }
            for (int i = first; i < end; i++) {
                other.set(keys[i], values[i]);
            }
            for (int i = end; i < size; i++) {
                keys[first + i - end] = keys[i];
                values[first + i - end] = values[i];
            }
            size -= end - first;
        }
    }

    /** A PEER; null stands for nobody wherever a PEER may be missing. */
    private static final class Peer {
        final int number;
        final int name;
        int bits;
        int being = OUT;
        int load;
        final boolean[] placed = new boolean[LEVELS];
        final Peer[] nexts = new Peer[LEVELS * SIDES];
        Peer lastLeft;
        Peer lastRight;
        final Pairs pairs = new Pairs();

        Peer(int number, int name, int bits) {
            this.number = number;
            this.name = name;
            this.bits = bits;
        }

        boolean isAway() {
            return being == OUT || being == COMING;
        }

        boolean startsAs(Peer other, int level) {
            return ((bits ^ other.bits) & ((1 << level) - 1)) == 0;
        }

        boolean isBeyond(Peer other, int side) {
            return side == LEFT ? name < other.name : name > other.name;
        }

        boolean hasPlace(int level) {
            return level >= 0 && level < LEVELS && placed[level];
        }

        Peer next(int level, int side) {
            return hasPlace(level) ? nexts[level * SIDES + (side & 1)] : null;
        }

        boolean hasSomebody(int level) {
            return next(level, LEFT) != null || next(level, RIGHT) != null;
        }

        void makePlace(int level) {
            if (level >= 0 && level < LEVELS) {
                placed[level] = true;
            }
        }

        void setNext(int level, int side, Peer p) {
            if (hasPlace(level)) {
                nexts[level * SIDES + (side & 1)] = p;
            }
        }

        void setPlace(int level, Peer left, Peer right) {
            makePlace(level);
            setNext(level, LEFT, left);
            setNext(level, RIGHT, right);
        }

        /** A PLACE that is made anew later is to have nobody: so both sides go too. */
        void dropPlacesFrom(int level) {
            for (int l = Math.max(level, 0); l < LEVELS; l++) {
                placed[l] = false;
                nexts[l * SIDES + LEFT] = null;
                nexts[l * SIDES + RIGHT] = null;
            }
        }

        int placesHeld() {
            int n = 0;
            for (int l = 0; l < LEVELS; l++) {
                n += placed[l] ? 1 : 0;
            }
            return n;
        }

        void comeIn(Peer left, Peer right) {
            being = IN;
            dropPlacesFrom(0);
            setPlace(0, left, right);
            pairs.size = 0;
        }

        void goOut() {
            lastLeft = next(0, LEFT);
            lastRight = next(0, RIGHT);
            dropPlacesFrom(0);
            being = OUT;
        }

        /** To whom a message AIMING at x goes from here; null: it is THERE, or LOST if this one is away. */
        Peer onward(int x) {
            if (isAway()) {
                return lastLeft != null ? lastLeft : lastRight;
            }
            int side = name <= x ? RIGHT : LEFT;
            for (int l = TOP_LEVEL; l >= 0; l--) {
                Peer p = next(l, side);
                if (p != null && (side == RIGHT ? p.name <= x : p.name >= x)) {
                    return p;
                }
            }
            return side == LEFT ? next(0, LEFT) : null;
        }
    }

    /** An ASK: low is the number that it is AIMING at. */
    private static final class Ask {
        final int number;
        final int sort;
        final int low;
        final int high;
        long carried;
        boolean isThere;
        boolean done;
        boolean lost;
        int answer;
        int passes;
        int notes;
        final byte[] way = new byte[MOST_TOLD];
        final byte[] notedOnes;

        Ask(int number, int sort, int low, int high, long carried) {
            this.number = number;
            this.sort = sort;
            this.low = low;
            this.high = high;
            this.carried = carried;
            this.notedOnes = new byte[sort == SPAN ? MOST_TOLD : 0];
        }

        void pass(Peer p) {
            if (passes < MOST_TOLD) {
                way[passes] = (byte) p.number;
            }
            passes++;
        }

        void note(Peer p) {
            if (notes < notedOnes.length) {
                notedOnes[notes] = (byte) p.number;
            }
            notes++;
        }

        void finish(int theAnswer) {
            done = true;
            answer = theAnswer;
        }

        void lose() {
            lost = true;
            finish(NONE);
        }
    }

    /**
     * A message: side is that which a LINK sets and to which a SEEK goes; left and right
     * are those of which a GIVE and a TELL tell (a LINK: on its side alone).
     */
    private static final class Message {
        int sort;
        Peer to;
        Ask ask;
        int level;
        int side;
        Peer left;
        Peer right;
    }

    /** The messages under way, as they were sent. */
    private static final class Line {
        // behind the messages under way stand used ones: a send takes one of them, not a new object
        final Message[] slots = new Message[MOST_MESSAGES];
        int size;
        int ofChange;
        Message lastTaken;

        Message at(int i) {
            return i >= 0 && i < size ? slots[i] : null;
        }

        void addAsk(Ask a, Peer to) {
            add(a, a.sort, to, NONE, LEFT, null, null);
        }

        void addPlain(int sort, Peer to) {
            add(null, sort, to, NONE, LEFT, null, null);
        }

        /** Sent to nobody it is not sent; there is always room, as MOST_MESSAGES tells. */
        void add(Ask ask, int sort, Peer to, int level, int side, Peer left, Peer right) {
            if (to == null || size >= slots.length) {
                return;
            }
            if (slots[size] == null) {
                slots[size] = new Message();
            }
            Message m = slots[size];
            m.ask = ask;
            m.sort = sort;
            m.to = to;
            m.level = level;
            m.side = side;
            m.left = left;
            m.right = right;
            size++;
            ofChange += ask == null ? 1 : 0;
        }

        /** What is taken away is used again only after the next one: it is still read while others are sent. */
        Message takeAway(int i) {
            Message m = at(i);
            if (m == null) {
                return null;
            }
            for (int j = i; j < size - 1; j++) {
                slots[j] = slots[j + 1];
            }
            size--;
            slots[size] = lastTaken;
            lastTaken = m;
            ofChange -= m.ask == null ? 1 : 0;
            return m;
        }
    }

    /** The CHANGE that is on; parcel holds the PAIRS that its GIVE or HAND carries. */
    private static final class Change {
        int kind = NO_CHANGE;
        Peer peer;
        boolean unlinking;
        int newBits;
        final Pairs parcel = new Pairs();

        boolean isOn() {
            return kind != NO_CHANGE;
        }

        void begin(int theKind, Peer p) {
            kind = theKind;
            peer = p;
            unlinking = false;
            parcel.size = 0;
        }
    }

    /** Promise 1. */
    public OrderedPeers() {
    }

    // ---- peers

    /** Promise 2. */
    public int peer(int name, int bits) {
        if (bits < 0 || bits > MOST_BITS || isNamed(name)) {
            return BAD;
        }
        return addPeer(name, bits);
    }

    /** Promise 3. */
    public int drawn(int name) {
        if (isNamed(name)) {
            return BAD;
        }
        int next = draw * DRAW_FACTOR + DRAW_STEP;
        int p = addPeer(name, (next >> 16) & MOST_BITS);
        if (p != FULL) {
            draw = next;
        }
        return p;
    }

    /** Promise 4. */
    public int seed(int v) {
        draw = v;
        return 1;
    }

    private int addPeer(int name, int bits) {
        if (peerCount >= MOST_PEERS) {
            return FULL;
        }
        peers[peerCount] = new Peer(peerCount, name, bits);
        peerCount++;
        return peerCount - 1;
    }

    private boolean isNamed(int name) {
        for (int i = 0; i < peerCount; i++) {
            if (peers[i].name == name) {
                return true;
            }
        }
        return false;
    }

    private Peer peerAt(int p) {
        return p >= 0 && p < peerCount ? peers[p] : null;
    }

    private int howManyIn() {
        int n = 0;
        for (int i = 0; i < peerCount; i++) {
            n += peers[i].being == IN ? 1 : 0;
        }
        return n;
    }

    // ---- changes

    /** Promise 5. */
    public int join(int u, int v) {
        Peer comer = peerAt(u);
        Peer by = peerAt(v);
        if (comer == null || by == null) {
            return BAD;
        }
        boolean isFirst = howManyIn() == 0;
        if (change.isOn() || comer.being != OUT || (isFirst ? by != comer : by.being != IN)) {
            return STATE;
        }
        if (isFirst) {
            comer.comeIn(null, null);
            return 1;
        }
        change.begin(JOINING, comer);
        comer.being = COMING;
        line.addPlain(JOIN, by);
        return 1;
    }

    /** Promise 6. */
    public int leave(int u) {
        Peer goer = peerAt(u);
        if (goer == null) {
            return BAD;
        }
        if (change.isOn() || goer.being != IN) {
            return STATE;
        }
        change.begin(LEAVING, goer);
        goer.being = GOING;
        linkPastFrom(goer, 0);
        handOver(goer);
        settleChange();
        return 1;
    }

    /** Promise 7. */
    public int again(int u, int bits) {
        Peer p = peerAt(u);
        if (p == null || bits < 0 || bits > MOST_BITS) {
            return BAD;
        }
        if (change.isOn() || p.being != IN) {
            return STATE;
        }
        change.begin(DRAWING_AGAIN, p);
        change.unlinking = true;
        change.newBits = bits;
        linkPastFrom(p, 1);
        p.dropPlacesFrom(1);
        settleChange();
        return 1;
    }

    /** Lets those next to u, from this LEVEL on, know of one another instead of u. */
    private void linkPastFrom(Peer u, int level) {
        for (int l = level; l < LEVELS; l++) {
            Peer left = u.next(l, LEFT);
            Peer right = u.next(l, RIGHT);
            sendLink(left, l, RIGHT, right);
            sendLink(right, l, LEFT, left);
        }
    }

    private void handOver(Peer goer) {
        if (goer.pairs.size == 0) {
            return;
        }
        goer.pairs.moveTo(change.parcel, 0, goer.pairs.size);
        Peer left = goer.next(0, LEFT);
        line.addPlain(HAND, left != null ? left : goer.next(0, RIGHT));
    }

    private void sendLink(Peer to, int level, int side, Peer other) {
        line.add(null, LINK, to, level, side, side == LEFT ? other : null, side == RIGHT ? other : null);
    }

    /** Does what is due when no message of the CHANGE is under way. */
    private void settleChange() {
        if (!change.isOn() || change.peer == null || line.ofChange > 0) {
            return;
        }
        if (change.unlinking) {
            change.unlinking = false;
            change.peer.bits = change.newBits;
            sendFirstSeek(change.peer, 0);
        }
        if (line.ofChange > 0) {
            return;
        }
        if (change.kind == LEAVING) {
            change.peer.goOut();
        }
        change.begin(NO_CHANGE, null);
    }

    // ---- asks

    /** Promise 8. */
    public int find(int from, int x) {
        return startAsk(FIND, from, x, x, 0L);
    }

    /** Promise 9. */
    public int span(int from, int a, int b) {
        return startAsk(SPAN, from, a, b, 0L);
    }

    /** Promise 10. */
    public int tally(int from, int a, int b) {
        return startAsk(TALLY, from, a, b, 0L);
    }

    /** Promise 11. */
    public int put(int from, int key, long v) {
        return startAsk(PUT, from, key, key, v);
    }

    /** Promise 12. */
    public int get(int from, int key) {
        return startAsk(GET, from, key, key, 0L);
    }

    private int startAsk(int sort, int from, int low, int high, long v) {
        Peer p = peerAt(from);
        if (p == null || high < low) {
            return BAD;
        }
        if (p.being != IN) {
            return STATE;
        }
        if (askCount >= MOST_ASKS || (sort == PUT && !takeKey(low))) {
            return FULL;
        }
        Ask a = new Ask(askCount, sort, low, high, v);
        asks[askCount] = a;
        askCount++;
        line.addAsk(a, p);
        return a.number;
    }

    /** Whether the KEY is one of those ever put, as it is from now on if there is room. */
    private boolean takeKey(int key) {
        for (int i = 0; i < keyCount; i++) {
            if (keysPut[i] == key) {
                return true;
            }
        }
        if (keyCount >= MOST_KEYS) {
            return false;
        }
        keysPut[keyCount] = key;
        keyCount++;
        return true;
    }

    private Ask askAt(int k) {
        return k >= 0 && k < askCount ? asks[k] : null;
    }

    /** Promise 13. */
    public int ask(int k, int what) {
        Ask a = askAt(k);
        if (a == null) {
            return BAD;
        }
        switch (what) {
            case 0: return a.sort;
            case 1: return a.done ? 1 : 0;
            case 2: return a.answer;
            case 3: return a.passes;
            case 4: return Math.min(a.passes, MOST_TOLD);
            default: return BAD;
        }
    }

    /** Promise 14. */
    public int passed(int k, int i) {
        Ask a = askAt(k);
        if (a == null) {
            return BAD;
        }
        return i >= 0 && i < Math.min(a.passes, MOST_TOLD) ? a.way[i] : NONE;
    }

    /** Promise 15. */
    public int noted(int k, int i) {
        Ask a = askAt(k);
        if (a == null || a.sort != SPAN) {
            return BAD;
        }
        return i >= 0 && i < Math.min(a.notes, a.notedOnes.length) ? a.notedOnes[i] : NONE;
    }

    /** Promise 16. */
    public long value(int k) {
        Ask a = askAt(k);
        return a != null && a.sort == GET ? a.carried : 0L;
    }

    // ---- messages

    /** Promise 17. */
    public int deliver(int i) {
        Message m = line.at(i);
        if (m == null) {
            return BAD;
        }
        return canBeTaken(m) ? take(i) : STATE;
    }

    /** Promise 18. */
    public int all(int n) {
        if (n < 0 || n > MOST_AT_ONCE) {
            return BAD;
        }
        int taken = 0;
        while (taken < n) {
            int i = firstToTake();
            if (i == NONE) {
                break;
            }
            take(i);
            taken++;
        }
        return taken;
    }

    /** Promise 19. */
    public int message(int i, int what) {
        Message m = line.at(i);
        if (m == null) {
            return BAD;
        }
        switch (what) {
            case 0: return m.sort;
            case 1: return m.to.number;
            case 2: return m.ask != null ? m.ask.number : NONE;
            case 3: return m.level;
            default: return BAD;
        }
    }

    private boolean canBeTaken(Message m) {
        return !change.isOn() || (m.sort != PUT && m.sort != GET);
    }

    private int firstToTake() {
        for (int i = 0; i < line.size; i++) {
            if (canBeTaken(line.slots[i])) {
                return i;
            }
        }
        return NONE;
    }

    private int take(int i) {
        Message m = line.takeAway(i);
        if (m == null) {
            return BAD;
        }
        m.to.load++;
        if (m.ask != null) {
            askComes(m.ask, m.to);
        } else {
            changeComes(m);
            settleChange();
        }
        return m.sort;
    }

    // ---- an ASK's message comes to a PEER

    private void askComes(Ask a, Peer at) {
        a.pass(at);
        Peer next = at.isAway() || !a.isThere ? at.onward(a.low) : null;
        if (next == null) {
            next = endOrGoAlong(a, at);
        }
        if (next != null) {
            line.addAsk(a, next);
        }
    }

    /** Where no AIMING leads on: the ASK is DONE, or the PEER to go along to is answered. */
    private static Peer endOrGoAlong(Ask a, Peer at) {
        if (at.isAway()) {
            a.lose();
            return null;
        }
        a.isThere = true;
        switch (a.sort) {
            case FIND:
                a.finish(at.number);
                return null;
            case PUT:
                at.pairs.set(a.low, a.carried);
                a.finish(1);
                return null;
            case GET:
                fetch(a, at.pairs);
                return null;
            default:
                return goAlong(a, at);
        }
    }

    private static void fetch(Ask a, Pairs pairs) {
        if (!pairs.holds(a.low)) {
            a.finish(NONE);
            return;
        }
        a.carried = pairs.valueAt(pairs.below(a.low));
        a.finish(1);
    }

    private static Peer goAlong(Ask a, Peer at) {
        if (at.name >= a.low && at.name <= a.high) {
            a.note(at);
        }
        Peer next = at.next(0, RIGHT);
        if (next != null && next.name <= a.high) {
            return next;
        }
        a.finish(a.notes);
        return null;
    }

    // ---- a CHANGE's message comes to a PEER

    private void changeComes(Message m) {
        Peer u = change.peer;
        if (u == null) {
            return;
        }
        switch (m.sort) {
            case JOIN:
                joinComes(u, m.to);
                break;
            case GIVE:
                u.comeIn(m.left, m.right);
                change.parcel.moveTo(u.pairs, 0, change.parcel.size);
                becomeLinked(u, 0);
                break;
            case LINK:
                linkComes(m.to, m.level, m.side, m.side == LEFT ? m.left : m.right);
                break;
            case SEEK:
                seekComes(u, m.to, m.level, m.side);
                break;
            case TELL:
                u.setPlace(m.level, m.left, m.right);
                becomeLinked(u, m.level);
                break;
            default:
                change.parcel.moveTo(m.to.pairs, 0, change.parcel.size);
                break;
        }
    }

    private void joinComes(Peer u, Peer at) {
        Peer next = at.onward(u.name);
        if (next != null) {
            line.addPlain(JOIN, next);
        } else if (!at.isAway()) {
            sendGive(u, at);
        }
    }

    private void sendGive(Peer u, Peer w) {
        if (w.name < u.name) {
            w.pairs.moveTo(change.parcel, w.pairs.below(u.name), w.pairs.size);
            line.add(null, GIVE, u, NONE, LEFT, w, w.next(0, RIGHT));
        } else {
            w.pairs.moveTo(change.parcel, 0, w.pairs.below(w.name));
            line.add(null, GIVE, u, NONE, LEFT, null, w);
        }
    }

    private void becomeLinked(Peer u, int level) {
        sendLink(u.next(level, LEFT), level, RIGHT, u);
        sendLink(u.next(level, RIGHT), level, LEFT, u);
        sendFirstSeek(u, level);
    }

    private void sendFirstSeek(Peer u, int level) {
        if (level >= TOP_LEVEL) {
            return;
        }
        Peer right = u.next(level, RIGHT);
        if (right != null) {
            line.add(null, SEEK, right, level, RIGHT, null, null);
        } else {
            line.add(null, SEEK, u.next(level, LEFT), level, LEFT, null, null);
        }
    }

    private void seekComes(Peer u, Peer z, int level, int side) {
        if (z.startsAs(u, level + 1)) {
            sendTell(u, level + 1, side == LEFT ? z : z.next(level + 1, LEFT),
                    side == RIGHT ? z : z.next(level + 1, RIGHT));
            return;
        }
        Peer on = z.next(level, side);
        Peer turn = side == RIGHT ? u.next(level, LEFT) : null;
        if (on != null) {
            line.add(null, SEEK, on, level, side, null, null);
        } else if (turn != null) {
            line.add(null, SEEK, turn, level, LEFT, null, null);
        } else {
            sendTell(u, level + 1, null, null);
        }
    }

    private void sendTell(Peer u, int level, Peer left, Peer right) {
        line.add(null, TELL, u, level, LEFT, left, right);
    }

    private void linkComes(Peer z, int level, int side, Peer other) {
        if (other == null && !z.hasPlace(level)) {
            return;
        }
        boolean had = z.hasSomebody(level);
        z.makePlace(level);
        z.setNext(level, side, other);
        boolean has = z.hasSomebody(level);
        if (!has) {
            z.dropPlacesFrom(level + 1);
        } else if (!had) {
            z.makePlace(level + 1);
        }
    }

    // ---- told

    /** Promise 20. */
    public int told(int p, int what) {
        Peer u = peerAt(p);
        if (u == null) {
            return BAD;
        }
        switch (what) {
            case 0: return u.being;
            case 1: return u.bits;
            case 2: return u.placesHeld();
            case 3: return u.load;
            case 4: return u.pairs.size;
            default: return BAD;
        }
    }

    /** Promise 21. */
    public int name(int p) {
        Peer u = peerAt(p);
        return u != null ? u.name : 0;
    }

    /** Promise 22. */
    public int beside(int p, int level, int side) {
        Peer u = peerAt(p);
        if (u == null || !isLevel(level) || side < LEFT || side > RIGHT) {
            return BAD;
        }
        if (!u.hasPlace(level)) {
            return STATE;
        }
        return numberOf(u.next(level, side));
    }

    /** Promise 23. */
    public int key(int p, int i) {
        Peer u = peerAt(p);
        return u != null ? u.pairs.keyAt(i) : 0;
    }

    /** Promise 24. */
    public long kept(int p, int i) {
        Peer u = peerAt(p);
        return u != null ? u.pairs.valueAt(i) : 0L;
    }

    /** Promise 25. */
    public int keeper(int key) {
        Peer least = null;
        Peer best = null;
        for (int i = 0; i < peerCount; i++) {
            Peer p = peers[i];
            if (p.being != IN) {
                continue;
            }
            if (least == null || p.name < least.name) {
                least = p;
            }
            if (p.name <= key && (best == null || p.name > best.name)) {
                best = p;
            }
        }
        return numberOf(best != null ? best : least);
    }

    /** Promise 26. */
    public int row(int p, int level, int i) {
        Peer u = peerAt(p);
        if (u == null || !isLevel(level)) {
            return BAD;
        }
        for (int j = 0; j < peerCount; j++) {
            if (isInRow(peers[j], u, level) && rankInRow(peers[j], u, level) == i) {
                return j;
            }
        }
        return NONE;
    }

    /** Promise 27. */
    public int sound() {
        return why(0) == NONE ? 1 : 0;
    }

    /** Promise 28. */
    public int why(int what) {
        if (what < 0 || what > 2) {
            return BAD;
        }
        for (int p = 0; p < peerCount; p++) {
            for (int l = 0; l < LEVELS; l++) {
                int fault = peers[p].being == IN ? faultAt(peers[p], l) : NONE;
                if (fault != NONE) {
                    return what == 0 ? p : what == 1 ? l : fault;
                }
            }
        }
        return NONE;
    }

    /** Promise 29. */
    public int worst() {
        if (change.isOn()) {
            return STATE;
        }
        int most = NONE;
        for (int i = 0; i < peerCount; i++) {
            for (int j = 0; j < peerCount; j++) {
                if (peers[i].being == IN && peers[j].being == IN) {
                    most = Math.max(most, passesOfFind(peers[i], peers[j].name));
                }
            }
        }
        return most;
    }

    /** Promise 30. */
    public int count(int what) {
        switch (what) {
            case 0: return peerCount;
            case 1: return howManyIn();
            case 2: return line.size;
            case 3: return askCount;
            case 4: return howManyEnded(false);
            case 5: return change.kind;
            case 6: return line.ofChange;
            case 7: return keyCount;
            case 8: return howManyEnded(true);
            default: return BAD;
        }
    }

    private int howManyEnded(boolean lostOnly) {
        int n = 0;
        for (int k = 0; k < askCount; k++) {
            n += asks[k].lost || (asks[k].done && !lostOnly) ? 1 : 0;
        }
        return n;
    }

    private static int numberOf(Peer p) {
        return p != null ? p.number : NONE;
    }

    private static boolean isLevel(int level) {
        return level >= 0 && level <= TOP_LEVEL;
    }

    private static boolean isInRow(Peer q, Peer u, int level) {
        return q.being == IN && q.startsAs(u, level);
    }

    private int rankInRow(Peer q, Peer u, int level) {
        int n = 0;
        for (int j = 0; j < peerCount; j++) {
            n += isInRow(peers[j], u, level) && peers[j].name < q.name ? 1 : 0;
        }
        return n;
    }

    private Peer nextInRow(Peer u, int level, int side) {
        Peer nearest = null;
        for (int j = 0; j < peerCount; j++) {
            Peer q = peers[j];
            if (isInRow(q, u, level) && q.isBeyond(u, side) && (nearest == null || nearest.isBeyond(q, side))) {
                nearest = q;
            }
        }
        return nearest;
    }

    private boolean isAlone(Peer u, int level) {
        return nextInRow(u, level, LEFT) == null && nextInRow(u, level, RIGHT) == null;
    }

    /** What is not as it is to be at this LEVEL of a PEER that is IN, as why() tells it. */
    private int faultAt(Peer u, int level) {
        boolean isDue = level == 0 || !isAlone(u, level - 1);
        if (isDue != u.hasPlace(level)) {
            return PLACE_ITSELF;
        }
        if (!isDue) {
            return NONE;
        }
        if (u.next(level, LEFT) != nextInRow(u, level, LEFT)) {
            return LEFT;
        }
        return u.next(level, RIGHT) != nextInRow(u, level, RIGHT) ? RIGHT : NONE;
    }

    private static int passesOfFind(Peer from, int x) {
        Peer at = from;
        int passes = 1;
        while (passes < MOST_STEPS) {
            Peer next = at.onward(x);
            if (next == null) {
                break;
            }
            at = next;
            passes++;
        }
        return passes;
    }
}
