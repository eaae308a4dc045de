import java.util.ArrayList;
import java.util.Arrays;
import java.util.List;
import java.util.Map;
import java.util.TreeMap;
import java.util.TreeSet;

/**
 * The document's terms once more, written for reading and not for thrift: rows are lists, sets are sets,
 * results are worked out anew from the whole row each time. ModelTest holds SpecOrder against it.
 */
final class Model {
    static final class Msg {
        int kind, from, to, view, request = -1, place, digest, result, fixed, state;
        List<Integer> row;
    }

    static final class Rep {
        int id, view, fixed;
        boolean changing;
        List<Integer> row = new ArrayList<>();
        TreeSet<Integer> wanted = new TreeSet<>();
        TreeSet<Integer> hated = new TreeSet<>();
        TreeMap<Integer, Msg> changes = new TreeMap<>();
    }

    static final class Req {
        int op, key, amount, result, place;
        boolean done;
        TreeMap<Integer, Msg> replies = new TreeMap<>();
        Msg provenBy;
        /** The view of the replies or the proof by which it became done. */
        int doneView;
    }

    final int faulty;
    final List<Msg> sent = new ArrayList<>();
    final List<Req> requests = new ArrayList<>();
    final Rep[] reps = new Rep[4];
    final Map<Integer, Msg> acks = new TreeMap<>();
    int clientView;

    Model(int faulty) {
        this.faulty = faulty;
        for (int i = 0; i < 4; i++) {
            reps[i] = new Rep();
            reps[i].id = i;
        }
    }

    boolean hasFaulty() {
        return faulty >= 0 && faulty <= 3;
    }

    static int digest(List<Integer> row, int n) {
        int d = 7;
        for (int q : row.subList(0, n)) {
            d = 31 * d + q + 1;
        }
        return d;
    }

    /** The four numbers after the first n of a row, and behind them the result of the last one done. */
    int[] run(List<Integer> row, int n) {
        int[] num = new int[5];
        for (int q : row.subList(0, n)) {
            Req r = requests.get(q);
            int had = num[r.key];
            num[r.key] = r.op == 0 ? r.amount : r.op == 1 ? had + r.amount : had;
            num[4] = r.op == 0 ? had : num[r.key];
        }
        return num;
    }

    private Msg msg(int kind, int from, int view) {
        Msg m = new Msg();
        m.kind = kind;
        m.from = from;
        m.view = view;
        return m;
    }

    private void send(Msg m, int to) {
        if (sent.size() == 600) {
            return;
        }
        Msg copy = new Msg();
        copy.kind = m.kind;
        copy.from = m.from;
        copy.to = to;
        copy.view = m.view;
        copy.request = m.request;
        copy.place = m.place;
        copy.digest = m.digest;
        copy.result = m.result;
        copy.fixed = m.fixed;
        copy.row = m.row == null ? null : new ArrayList<>(m.row);
        sent.add(copy);
    }

    private void sendAll(Msg m) {
        for (int i = 0; i < 4; i++) {
            if (i != m.from) {
                send(m, i);
            }
        }
    }

    private void ask(int from, int to, int q) {
        Msg m = msg(0, from, 0);
        m.request = q;
        send(m, to);
    }

    int issue(int op, int key, int amount) {
        Req r = new Req();
        r.op = op;
        r.key = key;
        r.amount = amount;
        requests.add(r);
        ask(4, clientView % 4, requests.size() - 1);
        return requests.size() - 1;
    }

    static boolean equal(Msg a, Msg b) {
        return a.view == b.view && a.place == b.place && a.digest == b.digest && a.result == b.result;
    }

    private Msg agreed(Req r, int n) {
        for (Msg a : r.replies.values()) {
            if (r.replies.values().stream().filter(b -> equal(a, b)).count() >= n) {
                return a;
            }
        }
        return null;
    }

    int retry(int q) {
        Req r = requests.get(q);
        if (r.done) {
            return 0;
        }
        Msg a = agreed(r, 3);
        if (a == null) {
            for (int i = 0; i < 4; i++) {
                ask(4, i, q);
            }
            return 1;
        }
        r.provenBy = a;
        Msg p = msg(3, 4, a.view);
        p.place = a.place;
        p.digest = a.digest;
        sendAll(p);
        return 2;
    }

    boolean deliver(int i) {
        if (i < 0 || i >= sent.size() || sent.get(i).state != 0) {
            return false;
        }
        Msg m = sent.get(i);
        m.state = 1;
        if (m.to == 4) {
            clientTakes(m.from, m);
        } else if (m.to != faulty) {
            takes(reps[m.to], m);
        }
        return true;
    }

    int flood(int from) {
        int n = 0;
        for (int i = from; i < sent.size(); i++) {
            if (deliver(i)) {
                n++;
            }
        }
        return n;
    }

    boolean lose(int i) {
        if (i < 0 || i >= sent.size() || sent.get(i).state != 0) {
            return false;
        }
        sent.get(i).state = 2;
        return true;
    }

    boolean patience(int i) {
        Rep r = reps[i];
        if (i == faulty || !r.changing && r.wanted.isEmpty()) {
            return false;
        }
        sendAll(msg(5, i, r.view));
        hate(r, i);
        return true;
    }

    boolean lie(int to, int q) {
        Rep r = reps[to];
        if (!hasFaulty() || r.view % 4 != faulty) {
            return false;
        }
        List<Integer> longer = new ArrayList<>(r.row);
        longer.add(q);
        Msg o = msg(1, faulty, r.view);
        o.place = r.row.size() + 1;
        o.request = q;
        o.digest = digest(longer, longer.size());
        List<Integer> before = new ArrayList<>(r.row);
        takes(r, o);
        return !before.equals(r.row);
    }

    boolean echo(int i, int q) {
        Msg kept = requests.get(q).replies.get(i);
        if (!hasFaulty() || kept == null) {
            return false;
        }
        clientTakes(faulty, kept);
        return true;
    }

    private void clientTakes(int from, Msg m) {
        if (m.kind == 2) {
            clientView = Math.max(clientView, m.view);
            Req r = requests.get(m.request);
            Msg old = r.replies.get(from);
            if (old == null || old.view <= m.view) {
                r.replies.put(from, m);
            }
            look(r);
        } else {
            acks.put(from, m);
            requests.forEach(this::look);
        }
    }

    private void look(Req r) {
        if (r.done) {
            return;
        }
        Msg by = agreed(r, 4);
        if (by == null && r.provenBy != null) {
            Msg p = r.provenBy;
            long same = acks.values().stream()
                    .filter(a -> a.view == p.view && a.place == p.place && a.digest == p.digest).count();
            by = same >= 3 ? p : null;
        }
        if (by != null) {
            r.done = true;
            r.result = by.result;
            r.place = by.place;
            r.doneView = by.view;
        }
    }

    private void reply(Rep r, int place) {
        Msg m = msg(2, r.id, r.view);
        m.request = r.row.get(place - 1);
        m.place = place;
        m.digest = digest(r.row, place);
        m.result = run(r.row, place)[4];
        send(m, 4);
    }

    private void order(Rep r, int place) {
        Msg m = msg(1, r.id, r.view);
        m.request = r.row.get(place - 1);
        m.place = place;
        m.digest = digest(r.row, place);
        sendAll(m);
    }

    private void takes(Rep r, Msg m) {
        if (r.changing && m.kind <= 4) {
            return;
        }
        if (m.kind == 0) {
            takesAsk(r, m);
        } else if (m.kind == 1) {
            List<Integer> longer = new ArrayList<>(r.row);
            longer.add(m.request);
            if (m.from == r.view % 4 && m.view == r.view && m.place == r.row.size() + 1
                    && !r.row.contains(m.request) && m.digest == digest(longer, longer.size())) {
                r.row.add(m.request);
                r.wanted.remove(m.request);
                reply(r, m.place);
            }
        } else if (m.kind == 3) {
            if (m.view == r.view && r.row.size() >= m.place && digest(r.row, m.place) == m.digest) {
                r.fixed = Math.max(r.fixed, m.place);
                Msg a = msg(4, r.id, m.view);
                a.place = m.place;
                a.digest = m.digest;
                send(a, 4);
            }
        } else if (m.kind == 5) {
            if (m.view == r.view) {
                hate(r, m.from);
            }
        } else if (m.kind == 6) {
            takesChange(r, m.from, m);
        } else if (m.kind == 7) {
            if (m.from == m.view % 4 && (m.view > r.view || m.view == r.view && r.changing)) {
                turn(r, m.view, m.row, m.fixed);
            }
        }
    }

    private void takesAsk(Rep r, Msg m) {
        boolean primary = r.view % 4 == r.id;
        if (r.row.contains(m.request)) {
            int place = r.row.indexOf(m.request) + 1;
            reply(r, place);
            if (primary) {
                order(r, place);
            }
        } else if (primary) {
            r.row.add(m.request);
            r.wanted.remove(m.request);
            order(r, r.row.size());
            reply(r, r.row.size());
        } else {
            r.wanted.add(m.request);
            if (r.view % 4 != m.from) {
                ask(r.id, r.view % 4, m.request);
            }
        }
    }

    private void hate(Rep r, int who) {
        r.hated.add(who);
        if (r.hated.size() < 2) {
            return;
        }
        r.view++;
        r.hated.clear();
        r.changing = true;
        Msg c = msg(6, r.id, r.view);
        c.row = new ArrayList<>(r.row);
        c.place = c.row.size();
        c.fixed = r.fixed;
        if (r.view % 4 == r.id) {
            takesChange(r, r.id, c);
        } else {
            send(c, r.view % 4);
        }
    }

    private void takesChange(Rep r, int from, Msg m) {
        if (m.view % 4 != r.id || m.view < r.view) {
            return;
        }
        r.changes.put(from, m);
        List<Msg> those = new ArrayList<>();
        for (Msg c : r.changes.values()) {
            if (c.view == m.view) {
                those.add(c);
            }
        }
        if (!r.changing || r.view != m.view || those.size() < 3) {
            return;
        }
        Msg most = those.get(0);
        for (Msg c : those) {
            if (c.fixed > most.fixed) {
                most = c;
            }
        }
        List<Integer> row = new ArrayList<>(most.row.subList(0, most.fixed));
        while (goOn(those, row)) {
            // goOn() has put one more at the end
        }
        Msg n = msg(7, r.id, m.view);
        n.row = row;
        n.place = row.size();
        n.fixed = most.fixed;
        sendAll(n);
        turn(r, m.view, row, most.fixed);
    }

    private boolean goOn(List<Msg> those, List<Integer> row) {
        int n = row.size();
        int[] votes = new int[12];
        List<Integer> nexts = new ArrayList<>();
        for (Msg c : those) {
            if (c.row.size() > n && c.row.subList(0, n).equals(row)) {
                nexts.add(c.row.get(n));
                votes[c.row.get(n)]++;
            }
        }
        for (int q : nexts) {
            if (votes[q] >= 2) {
                row.add(q);
                return true;
            }
        }
        return false;
    }

    private void turn(Rep r, int view, List<Integer> row, int fixed) {
        r.view = view;
        r.row = new ArrayList<>(row);
        r.fixed = fixed;
        r.changing = false;
        r.hated.clear();
        r.wanted.removeAll(row);
        for (int place = 1; place <= row.size(); place++) {
            reply(r, place);
        }
    }

    static int bits(TreeSet<Integer> set) {
        return set.stream().mapToInt(i -> 1 << i).sum();
    }

    /** What replica(), for each what in turn, has to answer of a replica. */
    int[] replicaFacts(int i) {
        Rep r = reps[i];
        int[] facts = new int[23];
        int n = 0;
        for (int f : new int[] {r.view, r.row.size(), r.fixed, r.changing ? 1 : 0, bits(r.wanted),
                bits(r.hated), digest(r.row, r.row.size())}) {
            facts[n++] = f;
        }
        for (int k = 0; k < 12; k++) {
            facts[n++] = k < r.row.size() ? r.row.get(k) : -1;
        }
        for (int f : Arrays.copyOf(run(r.row, r.row.size()), 4)) {
            facts[n++] = f;
        }
        return facts;
    }

    int[] requestFacts(int q) {
        Req r = requests.get(q);
        return new int[] {r.done ? 2 : 1, r.result, r.place, r.replies.size(), r.provenBy != null ? 1 : 0};
    }

    int[] messageFacts(int i) {
        Msg m = sent.get(i);
        return new int[] {m.kind, m.from, m.to, m.view, m.request, m.place, m.state};
    }
}
