import java.util.ArrayList;
import java.util.HashSet;
import java.util.List;
import java.util.Map;
import java.util.Objects;
import java.util.Set;
import java.util.TreeMap;

/**
 * The document once more, written straight from its words with the Java library and
 * without a thought of room or speed: what OrderedPeers is compared with.
 */
final class PlainModel {
    static final int BAD = -1, STATE = -2, FULL = -3, NONE = -4;
    private static final int OUT = 0, COMING = 1, IN = 2, GOING = 3;

    /** A LEFT and a RIGHT, null being nobody. */
    private static final class Place {
        P left, right;

        Place(P left, P right) {
            this.left = left;
            this.right = right;
        }

        boolean nobody() {
            return left == null && right == null;
        }
    }

    private static final class P {
        int number, name, bits, being, load;
        TreeMap<Integer, Place> places = new TreeMap<>();
        P outLeft, outRight;
        TreeMap<Integer, Long> pairs = new TreeMap<>();

        P left(int l) {
            return places.containsKey(l) ? places.get(l).left : null;
        }

        P right(int l) {
            return places.containsKey(l) ? places.get(l).right : null;
        }
    }

    private static final class A {
        int sort, a, b, answer;
        long v;
        boolean done, lost, along, found;
        List<P> came = new ArrayList<>();
        List<P> noted = new ArrayList<>();
    }

    private static final class M {
        int sort, level = NONE;
        P to, left, right;
        A ask;
        boolean rightward;
        Map<Integer, Long> pairs;
    }

    private final List<P> peers = new ArrayList<>();
    private final List<A> asks = new ArrayList<>();
    private final List<M> line = new ArrayList<>();
    private final Set<Integer> keys = new HashSet<>();
    private int draw = 1;
    private int change;
    private P changer;
    private Integer bitsToCome;

    public int peer(int name, int bits) {
        if (bits < 0 || bits > 255 || peers.stream().anyMatch(p -> p.name == name)) return BAD;
        if (peers.size() == 32) return FULL;
        P p = new P();
        p.number = peers.size();
        p.name = name;
        p.bits = bits;
        peers.add(p);
        return p.number;
    }

    public int drawn(int name) {
        int next = (int) (1103515245L * draw + 12345L);
        int p = peer(name, (next >>> 16) % 256);
        if (p >= 0) draw = next;
        return p;
    }

    public int seed(int v) {
        draw = v;
        return 1;
    }

    // ---- changes

    private boolean noPeer(int p) {
        return p < 0 || p >= peers.size();
    }

    private List<P> in() {
        List<P> r = new ArrayList<>();
        for (P p : peers) if (p.being == IN) r.add(p);
        return r;
    }

    private M send(int sort, P to) {
        M m = new M();
        m.sort = sort;
        m.to = to;
        line.add(m);
        return m;
    }

    private void link(P to, int level, boolean itsRight, P one) {
        if (to == null) return;
        M m = send(7, to);
        m.level = level;
        m.rightward = itsRight;
        m.left = one;
    }

    public int join(int u, int v) {
        if (noPeer(u) || noPeer(v)) return BAD;
        P p = peers.get(u);
        if (change != 0 || p.being != OUT) return STATE;
        if (in().isEmpty()) {
            if (u != v) return STATE;
            p.being = IN;
            p.places.clear();
            p.places.put(0, new Place(null, null));
            p.pairs.clear();
            return 1;
        }
        if (peers.get(v).being != IN) return STATE;
        change = 1;
        changer = p;
        p.being = COMING;
        send(5, peers.get(v));
        return 1;
    }

    public int leave(int u) {
        if (noPeer(u)) return BAD;
        P p = peers.get(u);
        if (change != 0 || p.being != IN) return STATE;
        change = 2;
        changer = p;
        p.being = GOING;
        for (int l : p.places.keySet()) {
            link(p.left(l), l, true, p.right(l));
            link(p.right(l), l, false, p.left(l));
        }
        P heir = p.left(0) != null ? p.left(0) : p.right(0);
        if (heir != null && !p.pairs.isEmpty()) send(10, heir).pairs = new TreeMap<>(p.pairs);
        p.pairs.clear();
        lookAtChange();
        return 1;
    }

    public int again(int u, int bits) {
        if (noPeer(u) || bits < 0 || bits > 255) return BAD;
        P p = peers.get(u);
        if (change != 0 || p.being != IN) return STATE;
        change = 3;
        changer = p;
        bitsToCome = bits;
        for (int l : p.places.tailMap(1).keySet()) {
            link(p.left(l), l, true, p.right(l));
            link(p.right(l), l, false, p.left(l));
        }
        p.places.tailMap(1).clear();
        lookAtChange();
        return 1;
    }

    private int ofChange() {
        int n = 0;
        for (M m : line) if (m.sort >= 5) n++;
        return n;
    }

    private void lookAtChange() {
        if (change == 0) return;
        if (bitsToCome != null && ofChange() == 0) {
            changer.bits = bitsToCome;
            bitsToCome = null;
            firstSeek(0);
        }
        if (ofChange() > 0) return;
        if (change == 2) {
            changer.outLeft = changer.left(0);
            changer.outRight = changer.right(0);
            changer.places.clear();
            changer.being = OUT;
        }
        change = 0;
    }

    // ---- asks

    private int newAsk(int sort, int from, int a, int b, long v) {
        if (noPeer(from) || b < a) return BAD;
        if (peers.get(from).being != IN) return STATE;
        if (asks.size() == 160) return FULL;
        if (sort == 3 && !keys.contains(a) && keys.size() == 16) return FULL;
        if (sort == 3) keys.add(a);
        A q = new A();
        q.sort = sort;
        q.a = a;
        q.b = b;
        q.v = v;
        asks.add(q);
        send(sort, peers.get(from)).ask = q;
        return asks.size() - 1;
    }

    public int find(int from, int x) {
        return newAsk(0, from, x, x, 0);
    }

    public int span(int from, int a, int b) {
        return newAsk(1, from, a, b, 0);
    }

    public int tally(int from, int a, int b) {
        return newAsk(2, from, a, b, 0);
    }

    public int put(int from, int key, long v) {
        return newAsk(3, from, key, key, v);
    }

    public int get(int from, int key) {
        return newAsk(4, from, key, key, 0);
    }

    private boolean noAsk(int k) {
        return k < 0 || k >= asks.size();
    }

    public int ask(int k, int what) {
        if (noAsk(k) || what < 0 || what > 4) return BAD;
        A q = asks.get(k);
        int[] r = {q.sort, q.done ? 1 : 0, q.answer, q.came.size(), Math.min(40, q.came.size())};
        return r[what];
    }

    public int passed(int k, int i) {
        if (noAsk(k)) return BAD;
        List<P> way = asks.get(k).came;
        return i >= 0 && i < 40 && i < way.size() ? way.get(i).number : NONE;
    }

    public int noted(int k, int i) {
        if (noAsk(k) || asks.get(k).sort != 1) return BAD;
        List<P> noted = asks.get(k).noted;
        return i >= 0 && i < 40 && i < noted.size() ? noted.get(i).number : NONE;
    }

    public long value(int k) {
        return !noAsk(k) && asks.get(k).found ? asks.get(k).v : 0;
    }

    // ---- messages

    private boolean taken(M m) {
        return change == 0 || m.sort != 3 && m.sort != 4;
    }

    public int deliver(int i) {
        if (i < 0 || i >= line.size()) return BAD;
        if (!taken(line.get(i))) return STATE;
        M m = line.remove(i);
        m.to.load++;
        if (m.ask != null) askComes(m);
        else changeComes(m);
        lookAtChange();
        return m.sort;
    }

    public int all(int n) {
        if (n < 0 || n > 1000) return BAD;
        for (int done = 0; done < n; done++) {
            int i = 0;
            while (i < line.size() && !taken(line.get(i))) i++;
            if (i == line.size()) return done;
            deliver(i);
        }
        return n;
    }

    public int message(int i, int what) {
        if (i < 0 || i >= line.size() || what < 0 || what > 3) return BAD;
        M m = line.get(i);
        if (what == 0) return m.sort;
        if (what == 1) return m.to.number;
        if (what == 2) return m.ask == null ? NONE : asks.indexOf(m.ask);
        return m.level;
    }

    /** The PEER that a message AIMING at x is sent on to; null: THERE, or LOST. */
    private P aim(P u, int x) {
        if (u.being == OUT || u.being == COMING) return u.outLeft != null ? u.outLeft : u.outRight;
        P best = null;
        for (int l = 0; l <= 8; l++) {
            P r = u.right(l);
            P f = u.left(l);
            if (u.name <= x && r != null && r.name <= x) best = r;
            if (u.name > x && f != null && f.name >= x) best = f;
        }
        return best == null && u.name > x ? u.left(0) : best;
    }

    private void askComes(M m) {
        A q = m.ask;
        P u = m.to;
        q.came.add(u);
        boolean away = u.being == OUT || u.being == COMING;
        if (away || !q.along) {
            P to = aim(u, q.a);
            if (to != null) {
                send(q.sort, to).ask = q;
                return;
            }
            if (away) {
                q.lost = true;
                finish(q, NONE);
                return;
            }
        }
        q.along = true;
        if (q.sort == 0) finish(q, u.number);
        if (q.sort == 1 || q.sort == 2) along(q, u);
        if (q.sort == 3) {
            u.pairs.put(q.a, q.v);
            finish(q, 1);
        }
        if (q.sort == 4) {
            q.found = u.pairs.containsKey(q.a);
            if (q.found) q.v = u.pairs.get(q.a);
            finish(q, q.found ? 1 : NONE);
        }
    }

    private void along(A q, P u) {
        if (q.a <= u.name && u.name <= q.b) q.noted.add(u);
        P r = u.right(0);
        if (r != null && r.name <= q.b) send(q.sort, r).ask = q;
        else finish(q, q.noted.size());
    }

    private void finish(A q, int answer) {
        q.done = true;
        q.answer = answer;
    }

    private void changeComes(M m) {
        if (m.sort == 5) joinAt(m.to);
        if (m.sort == 6) {
            changer.being = IN;
            changer.places.clear();
            changer.places.put(0, new Place(m.left, m.right));
            changer.pairs = new TreeMap<>(m.pairs);
            linked(0);
        }
        if (m.sort == 7) linkAt(m.to, m);
        if (m.sort == 8) seekAt(m.to, m.level, m.rightward);
        if (m.sort == 9) {
            changer.places.put(m.level, new Place(m.left, m.right));
            linked(m.level);
        }
        if (m.sort == 10) m.to.pairs.putAll(m.pairs);
    }

    private void joinAt(P w) {
        P to = aim(w, changer.name);
        if (to != null) {
            send(5, to);
            return;
        }
        M give = send(6, changer);
        boolean below = w.name < changer.name;
        give.left = below ? w : null;
        give.right = below ? w.right(0) : w;
        Map<Integer, Long> part = below ? w.pairs.tailMap(changer.name, true) : w.pairs.headMap(w.name, false);
        give.pairs = new TreeMap<>(part);
        part.clear();
    }

    private void linked(int l) {
        link(changer.left(l), l, true, changer);
        link(changer.right(l), l, false, changer);
        firstSeek(l);
    }

    private void firstSeek(int l) {
        if (l == 8) return;
        if (changer.right(l) != null) seek(changer.right(l), l, true);
        else if (changer.left(l) != null) seek(changer.left(l), l, false);
    }

    private void seek(P to, int l, boolean rightward) {
        M m = send(8, to);
        m.level = l;
        m.rightward = rightward;
    }

    private void tell(int l, P left, P right) {
        M m = send(9, changer);
        m.level = l;
        m.left = left;
        m.right = right;
    }

    private boolean alike(P a, P b, int n) {
        for (int i = 0; i < n; i++) if ((a.bits >> i) % 2 != (b.bits >> i) % 2) return false;
        return true;
    }

    private void seekAt(P z, int l, boolean rightward) {
        if (alike(z, changer, l + 1)) {
            if (rightward) tell(l + 1, z.left(l + 1), z);
            else tell(l + 1, z, z.right(l + 1));
        } else if (rightward) {
            if (z.right(l) != null) seek(z.right(l), l, true);
            else if (changer.left(l) != null) seek(changer.left(l), l, false);
            else tell(l + 1, null, null);
        } else {
            if (z.left(l) != null) seek(z.left(l), l, false);
            else tell(l + 1, null, null);
        }
    }

    private void linkAt(P z, M m) {
        P one = m.left;
        if (one == null && !z.places.containsKey(m.level)) return;
        Place p = z.places.computeIfAbsent(m.level, l -> new Place(null, null));
        boolean before = !p.nobody();
        if (m.rightward) p.right = one;
        else p.left = one;
        if (p.nobody()) z.places.tailMap(m.level, false).clear();
        if (!before && !p.nobody() && m.level < 8) z.places.putIfAbsent(m.level + 1, new Place(null, null));
    }

    // ---- told

    public int told(int p, int what) {
        if (noPeer(p) || what < 0 || what > 4) return BAD;
        P u = peers.get(p);
        int[] r = {u.being, u.bits, u.places.size(), u.load, u.pairs.size()};
        return r[what];
    }

    public int name(int p) {
        return noPeer(p) ? 0 : peers.get(p).name;
    }

    public int beside(int p, int level, int side) {
        if (noPeer(p) || level < 0 || level > 8 || side < 0 || side > 1) return BAD;
        P u = peers.get(p);
        if (!u.places.containsKey(level)) return STATE;
        return number(side == 0 ? u.left(level) : u.right(level));
    }

    private int number(P p) {
        return p == null ? NONE : p.number;
    }

    public int key(int p, int i) {
        if (noPeer(p) || i < 0 || i >= peers.get(p).pairs.size()) return 0;
        return new ArrayList<>(peers.get(p).pairs.keySet()).get(i);
    }

    public long kept(int p, int i) {
        if (noPeer(p) || i < 0 || i >= peers.get(p).pairs.size()) return 0;
        return new ArrayList<>(peers.get(p).pairs.values()).get(i);
    }

    private TreeMap<Integer, P> rowOf(P u, int level) {
        TreeMap<Integer, P> r = new TreeMap<>();
        for (P p : in()) if (alike(p, u, level)) r.put(p.name, p);
        return r;
    }

    public int keeper(int key) {
        TreeMap<Integer, P> r = new TreeMap<>();
        for (P p : in()) r.put(p.name, p);
        if (r.isEmpty()) return NONE;
        return (r.floorEntry(key) != null ? r.floorEntry(key) : r.firstEntry()).getValue().number;
    }

    public int row(int p, int level, int i) {
        if (noPeer(p) || level < 0 || level > 8) return BAD;
        List<P> r = new ArrayList<>(rowOf(peers.get(p), level).values());
        return i >= 0 && i < r.size() ? r.get(i).number : NONE;
    }

    public int sound() {
        return firstFault() == null ? 1 : 0;
    }

    public int why(int what) {
        if (what < 0 || what > 2) return BAD;
        int[] f = firstFault();
        return f == null ? NONE : f[what];
    }

    private int[] firstFault() {
        for (P u : in()) {
            int top = 0;
            while (top < 8 && rowOf(u, top).size() > 1) top++;
            for (int l = 0; l <= 8; l++) {
                if (u.places.containsKey(l) != (l <= top)) return new int[] {u.number, l, 2};
                if (l > top) continue;
                Map.Entry<Integer, P> left = rowOf(u, l).lowerEntry(u.name);
                Map.Entry<Integer, P> right = rowOf(u, l).higherEntry(u.name);
                if (!Objects.equals(u.left(l), left == null ? null : left.getValue())) return new int[] {u.number, l, 0};
                if (!Objects.equals(u.right(l), right == null ? null : right.getValue())) return new int[] {u.number, l, 1};
            }
        }
        return null;
    }

    public int worst() {
        if (change != 0) return STATE;
        int most = NONE;
        for (P from : in()) {
            for (P of : in()) {
                int passes = 1;
                for (P at = aim(from, of.name); at != null; at = aim(at, of.name)) passes++;
                most = Math.max(most, passes);
            }
        }
        return most;
    }

    public int count(int what) {
        if (what < 0 || what > 8) return BAD;
        int done = 0;
        int lost = 0;
        for (A q : asks) {
            if (q.done) done++;
            if (q.lost) lost++;
        }
        int[] r = {peers.size(), in().size(), line.size(), asks.size(), done, change, ofChange(), keys.size(), lost};
        return r[what];
    }
}
