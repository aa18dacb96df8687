import java.util.ArrayList;
import java.util.List;
import java.util.Map;
import java.util.Set;
import java.util.TreeMap;
import java.util.TreeSet;

/**
 * The document told a second time, sentence by sentence and without regard to cost, to compare the
 * program with. It keeps nothing that can be worked out anew but what the document calls a state.
 */
final class ModelNet implements Look.Eyes {
    record Step(int other, int cost) {
    }

    record Rec(int router, int number, Map<Integer, Step> links, Set<Integer> prefixes) {
    }

    record Binding(int label, Set<Integer> path) {
    }

    static final class Msg {
        int kind;
        int subject;
        int value;
        Set<Integer> path = Set.of();
        Rec rec;
        boolean spoiled;

        Msg(int kind, int subject, int value) {
            this.kind = kind;
            this.subject = subject;
            this.value = value;
        }

        Msg again() {
            Msg m = new Msg(kind, subject, value);
            m.path = path;
            m.rec = rec;
            return m;
        }
    }

    static final class Wire {
        int[] ends;
        int cost;
        boolean up;
        final List<List<Msg>> queues = List.of(new ArrayList<>(), new ArrayList<>());

        int other(int r) {
            return ends[0] == r ? ends[1] : ends[0];
        }

        boolean at(int r) {
            return ends[0] == r || ends[1] == r;
        }
    }

    static final class InUse {
        int prefix;
        boolean withdrawn;
        final Set<Integer> waits = new TreeSet<>();
    }

    static final class Node {
        final Map<Integer, Rec> known = new TreeMap<>();
        final Map<Integer, Map<Integer, Binding>> had = new TreeMap<>();
        final Map<Integer, Binding> active = new TreeMap<>();
        final Map<Integer, InUse> inUse = new TreeMap<>();

        Map<Integer, Binding> hadOf(int prefix) {
            return had.computeIfAbsent(prefix, p -> new TreeMap<>());
        }
    }

    static final class Parcel {
        int prefix;
        int ttl;
        int router;
        int label = -1;
        int fate;
    }

    final int n;
    final Node[] nodes;
    final Map<Integer, Wire> wires = new TreeMap<>();
    final Map<Integer, Integer> attached = new TreeMap<>();
    final List<Parcel> parcels = new ArrayList<>();
    int lost;

    ModelNet(int routers) {
        n = routers < 2 ? 2 : routers > 8 ? 8 : routers;
        nodes = new Node[n];
        for (int r = 0; r < n; r++) {
            nodes[r] = new Node();
            nodes[r].known.put(r, new Rec(r, 1, Map.of(), Set.of()));
        }
    }

    // ---- the calls

    private static void bounds(boolean good) {
        if (!good) {
            throw new IndexOutOfBoundsException();
        }
    }

    private static void args(boolean good) {
        if (!good) {
            throw new IllegalArgumentException();
        }
    }

    private boolean router(int r) {
        return r >= 0 && r < n;
    }

    private static boolean in(int x, int least, int most) {
        return x >= least && x <= most;
    }

    void lay(int link, int a, int b, int cost) {
        bounds(in(link, 0, 11) && router(a) && router(b));
        args(!wires.containsKey(link) && a != b && in(cost, 1, 60));
        Wire w = new Wire();
        w.ends = a < b ? new int[] {a, b} : new int[] {b, a};
        w.cost = cost;
        wires.put(link, w);
    }

    void turn(int link, boolean up) {
        bounds(in(link, 0, 11));
        args(wires.containsKey(link) && wires.get(link).up != up);
        Wire w = wires.get(link);
        w.up = up;
        if (up) {
            for (int r : w.ends) {
                tell(r);
            }
            for (int r : w.ends) {
                for (Rec rec : nodes[r].known.values()) {
                    if (rec.router() != r) {
                        put(r, link, note(rec));
                    }
                }
            }
            for (int r : w.ends) {
                nodes[r].active.forEach((p, b) -> putMapping(r, link, p, b));
            }
        } else {
            for (List<Msg> q : w.queues) {
                for (Msg m : q) {
                    if (m.kind == 4) {
                        parcels.get(m.subject).fate = 6;
                    }
                }
                q.clear();
            }
            for (int r : w.ends) {
                tell(r);
            }
            for (int r : w.ends) {
                nodes[r].had.values().forEach(m -> m.remove(link));
                nodes[r].inUse.values().forEach(u -> u.waits.remove(link));
                dropReleased(r);
            }
        }
        for (int r : w.ends) {
            check(r);
        }
    }

    void attach(int prefix, int r) {
        bounds(in(prefix, 0, 7) && (r == -1 || router(r)));
        int before = attached.getOrDefault(prefix, -1);
        args(before != r);
        attached.remove(prefix);
        if (before != -1) {
            tell(before);
            check(before);
        }
        if (r != -1) {
            attached.put(prefix, r);
            tell(r);
            check(r);
        }
    }

    int deliver(int link, int end) {
        bounds(in(link, 0, 11) && in(end, 0, 1));
        if (!wires.containsKey(link) || wires.get(link).queues.get(end).isEmpty()) {
            return -1;
        }
        Msg m = wires.get(link).queues.get(end).remove(0);
        comes(wires.get(link).ends[1 - end], link, m);
        return m.kind + (m.spoiled ? 8 : 0);
    }

    int run(int count) {
        args(in(count, 0, 500));
        int done = 0;
        boolean found = true;
        while (found && done < count) {
            found = false;
            for (int i = 0; i < 24 && !found; i++) {
                found = deliver(i / 2, i % 2) != -1;
            }
            done += found ? 1 : 0;
        }
        return done;
    }

    boolean spoil(int link, int end, int k) {
        bounds(in(link, 0, 11) && in(end, 0, 1));
        if (!wires.containsKey(link) || !in(k, 0, wires.get(link).queues.get(end).size() - 1)) {
            return false;
        }
        wires.get(link).queues.get(end).get(k).spoiled = true;
        return true;
    }

    int inject(int r, int prefix, int ttl) {
        bounds(router(r) && in(prefix, 0, 7));
        args(in(ttl, 0, 60) && parcels.size() < 64);
        Parcel p = new Parcel();
        p.prefix = prefix;
        p.ttl = ttl;
        parcels.add(p);
        packetComes(r, parcels.size() - 1, -1);
        return parcels.size() - 1;
    }

    @Override
    public int packet(int k, int what) {
        if (!in(k, 0, parcels.size() - 1) || !in(what, 0, 4)) {
            return -1;
        }
        Parcel p = parcels.get(k);
        return new int[] {p.fate, p.router, p.ttl, p.label, p.prefix}[what];
    }

    @Override
    public int queue(int link, int end, int what) {
        if (!in(link, 0, 11) || !in(end, 0, 1) || !in(what, 0, 4)) {
            return -1;
        }
        List<Msg> q = wires.containsKey(link) ? wires.get(link).queues.get(end) : List.of();
        if (what == 0) {
            return q.size();
        }
        if (q.isEmpty()) {
            return -1;
        }
        Msg m = q.get(0);
        return new int[] {m.kind + (m.spoiled ? 8 : 0), m.subject, m.value, bits(m.path)}[what - 1];
    }

    @Override
    public int knows(int r, int other) {
        if (!router(r) || !router(other)) {
            return -1;
        }
        return nodes[r].known.containsKey(other) ? nodes[r].known.get(other).number() : 0;
    }

    @Override
    public int way(int r, int other, int what) {
        if (!router(r) || !router(other) || !in(what, 0, 1)) {
            return -1;
        }
        return what == 0 ? distances(r, r).getOrDefault(other, -1) : hop(r, other);
    }

    @Override
    public int label(int r, int prefix, int link, int what) {
        if (!router(r) || !in(prefix, 0, 7)) {
            return -1;
        }
        if (what == 0) {
            return egress(r, prefix);
        }
        Binding b;
        if (what == 1 || what == 2) {
            b = nodes[r].active.get(prefix);
        } else {
            int e = egress(r, prefix);
            int by = link != -1 ? link : e == -1 ? -1 : hop(r, e);
            b = nodes[r].hadOf(prefix).get(by);
        }
        if (b == null || !in(what, 1, 4)) {
            return -1;
        }
        return what % 2 == 1 ? b.label() : bits(b.path());
    }

    @Override
    public int count(int r, int what) {
        switch (what) {
            case 0:
                return router(r) ? nodes[r].inUse.size() : -1;
            case 1:
                return lost;
            case 2:
                return (int) parcels.stream().filter(p -> p.fate == 0).count();
            case 3:
                return (int) wires.values().stream().filter(w -> w.up).count();
            default:
                return -1;
        }
    }

    private static int bits(Set<Integer> set) {
        int sum = 0;
        for (int x : set) {
            sum += 1 << x;
        }
        return sum;
    }

    // ---- records and ways

    private List<Integer> upAt(int r) {
        List<Integer> found = new ArrayList<>();
        wires.forEach((l, w) -> {
            if (w.up && w.at(r)) {
                found.add(l);
            }
        });
        return found;
    }

    private void tell(int r) {
        Map<Integer, Step> links = new TreeMap<>();
        for (int l : upAt(r)) {
            links.put(l, new Step(wires.get(l).other(r), wires.get(l).cost));
        }
        Set<Integer> prefixes = new TreeSet<>();
        attached.forEach((p, at) -> {
            if (at == r) {
                prefixes.add(p);
            }
        });
        Rec rec = new Rec(r, nodes[r].known.get(r).number() + 1, links, prefixes);
        nodes[r].known.put(r, rec);
        for (int l : upAt(r)) {
            put(r, l, note(rec));
        }
    }

    private static Msg note(Rec rec) {
        Msg m = new Msg(0, rec.router(), rec.number());
        m.rec = rec;
        return m;
    }

    private Map<Integer, Integer> distances(int r, int from) {
        Map<Integer, Rec> known = nodes[r].known;
        Map<Integer, Integer> found = new TreeMap<>();
        found.put(from, 0);
        boolean changed = true;
        while (changed) {
            changed = false;
            for (Rec a : known.values()) {
                Integer sum = found.get(a.router());
                if (sum == null) {
                    continue;
                }
                for (Map.Entry<Integer, Step> s : a.links().entrySet()) {
                    Rec b = known.get(s.getValue().other());
                    if (b == null || !b.links().containsKey(s.getKey())) {
                        continue;
                    }
                    int here = sum + s.getValue().cost();
                    if (here < found.getOrDefault(b.router(), Integer.MAX_VALUE)) {
                        found.put(b.router(), here);
                        changed = true;
                    }
                }
            }
        }
        return found;
    }

    private int hop(int r, int to) {
        Integer whole = distances(r, r).get(to);
        if (r == to || whole == null) {
            return -1;
        }
        for (int l : upAt(r)) {
            Integer rest = distances(r, wires.get(l).other(r)).get(to);
            if (nodes[r].known.get(r).links().containsKey(l) && rest != null && wires.get(l).cost + rest == whole) {
                return l;
            }
        }
        return -1;
    }

    private int egress(int r, int prefix) {
        Set<Integer> near = distances(r, r).keySet();
        for (Rec rec : nodes[r].known.values()) {
            if (rec.prefixes().contains(prefix) && near.contains(rec.router())) {
                return rec.router();
            }
        }
        return -1;
    }

    // ---- messages

    private boolean put(int r, int link, Msg m) {
        List<Msg> q = wires.get(link).queues.get(wires.get(link).ends[0] == r ? 0 : 1);
        if (q.size() == 16) {
            lost += m.kind == 4 ? 0 : 1;
            return false;
        }
        q.add(m.again());
        return true;
    }

    private void putMapping(int r, int link, int prefix, Binding b) {
        Msg m = new Msg(1, prefix, b.label());
        m.path = b.path();
        if (b.label() != 3) {
            nodes[r].inUse.get(b.label()).waits.add(link);
        }
        put(r, link, m);
    }

    private void comes(int r, int link, Msg m) {
        Node node = nodes[r];
        if (m.spoiled) {
            if (m.kind == 4) {
                parcels.get(m.subject).fate = 7;
            }
        } else if (m.kind == 0) {
            int mine = knows(r, m.subject);
            if (m.subject != r && m.value > mine) {
                node.known.put(m.subject, m.rec);
                for (int l : upAt(r)) {
                    if (l != link) {
                        put(r, l, m);
                    }
                }
                check(r);
            } else if (m.subject != r && m.value < mine) {
                put(r, link, note(node.known.get(m.subject)));
            }
        } else if (m.kind == 1) {
            if (m.path.contains(r)) {
                put(r, link, new Msg(3, m.subject, m.value));
                node.hadOf(m.subject).remove(link);
            } else {
                node.hadOf(m.subject).put(link, new Binding(m.value, m.path));
            }
            check(r);
        } else if (m.kind == 2) {
            Binding b = node.hadOf(m.subject).get(link);
            if (b != null && b.label() == m.value) {
                node.hadOf(m.subject).remove(link);
            }
            put(r, link, new Msg(3, m.subject, m.value));
            check(r);
        } else if (m.kind == 3) {
            InUse u = node.inUse.get(m.value);
            if (u != null && u.prefix == m.subject) {
                u.waits.remove(link);
                dropReleased(r);
                check(r);
            }
        } else {
            packetComes(r, m.subject, m.value);
        }
    }

    private void dropReleased(int r) {
        nodes[r].inUse.values().removeIf(u -> u.withdrawn && u.waits.isEmpty());
    }

    // ---- labels

    private void check(int r) {
        for (int p = 0; p < 8; p++) {
            Binding was = nodes[r].active.get(p);
            Binding is = activeNow(r, p, was);
            if (is == null) {
                nodes[r].active.remove(p);
            } else {
                nodes[r].active.put(p, is);
            }
            if (was == null && is != null) {
                sendMapping(r, p, is);
            } else if (was != null && is == null) {
                withdraw(r, p, was.label());
            } else if (was != null && !was.equals(is)) {
                if (was.label() != is.label()) {
                    withdraw(r, p, was.label());
                }
                sendMapping(r, p, is);
            }
        }
    }

    private Binding activeNow(int r, int p, Binding was) {
        int egress = egress(r, p);
        if (egress == r) {
            return new Binding(3, Set.of(r));
        }
        Binding b = egress == -1 ? null : nodes[r].hadOf(p).get(hop(r, egress));
        if (b == null) {
            return null;
        }
        int label = was == null || was.label() == 3 ? 16 : was.label();
        if (was == null || was.label() == 3) {
            while (nodes[r].inUse.containsKey(label)) {
                label++;
            }
            if (label > 79) {
                return null;
            }
            InUse u = new InUse();
            u.prefix = p;
            nodes[r].inUse.put(label, u);
        }
        Set<Integer> path = new TreeSet<>(b.path());
        path.add(r);
        return new Binding(label, path);
    }

    private void sendMapping(int r, int p, Binding b) {
        for (int l : upAt(r)) {
            putMapping(r, l, p, b);
        }
    }

    private void withdraw(int r, int p, int label) {
        for (int l : upAt(r)) {
            put(r, l, new Msg(2, p, label));
        }
        if (label != 3) {
            nodes[r].inUse.get(label).withdrawn = true;
            dropReleased(r);
        }
    }

    // ---- packets

    private void packetComes(int r, int number, int label) {
        Parcel parcel = parcels.get(number);
        parcel.router = r;
        int prefix = parcel.prefix;
        if (label == -1) {
            if (attached.getOrDefault(prefix, -1) == r) {
                parcel.fate = 1;
                return;
            }
            int egress = egress(r, prefix);
            if (egress == -1 || egress == r) {
                parcel.fate = 2;
                return;
            }
        } else {
            prefix = -1;
            for (Map.Entry<Integer, Binding> e : nodes[r].active.entrySet()) {
                if (e.getValue().label() == label) {
                    prefix = e.getKey();
                }
            }
            if (prefix == -1) {
                parcel.fate = 3;
                return;
            }
        }
        if (parcel.ttl == 0) {
            parcel.fate = 4;
            return;
        }
        parcel.ttl--;
        int hop = hop(r, egress(r, prefix));
        Binding b = nodes[r].hadOf(prefix).get(hop);
        int next = b == null || b.label() == 3 ? -1 : b.label();
        if (put(r, hop, new Msg(4, number, next))) {
            parcel.label = next;
        } else {
            parcel.fate = 5;
        }
    }
}
