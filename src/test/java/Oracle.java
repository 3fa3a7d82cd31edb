import java.util.ArrayDeque;
import java.util.ArrayList;
import java.util.List;
import java.util.TreeSet;

/**
 * A second reading of the document, written for plainness alone: lists instead of rows, every WATCH
 * kept by itself, a READY row that is a list. FuzzTest plays the same calls on it and on MailDen.
 * An exception is answered as a number below all answers.
 */
final class Oracle {
    static final long INDEX = -1_000_001;
    static final long ARGUMENT = -1_000_002;
    static final long STATE = -1_000_003;

    static final class P {
        int id, module = -1, version = -1, spec = -1, status, reason = -1, there, pc, until = -1;
        int[] wait;
        boolean trap;
        int[] local = new int[4];
        List<int[]> box = new ArrayList<>();
        int sup = -1;
        int[] child = {-1, -1, -1, -1};
        boolean[] empty = new boolean[4];
        List<Integer> restarts = new ArrayList<>();

        P copy() {
            P c = new P();
            c.id = id;
            c.module = module;
            c.version = version;
            c.spec = spec;
            c.status = status;
            c.reason = reason;
            c.there = there;
            c.pc = pc;
            c.until = until;
            c.wait = wait;
            c.trap = trap;
            c.local = local.clone();
            c.box.addAll(box);
            c.sup = sup;
            c.child = child.clone();
            c.empty = empty.clone();
            c.restarts.addAll(restarts);
            return c;
        }
    }

    List<List<List<int[]>>> modules = new ArrayList<>();
    List<List<int[]>> specs = new ArrayList<>();
    TreeSet<Integer> touched = new TreeSet<>();
    TreeSet<Integer> supervised = new TreeSet<>();
    List<P> ps = new ArrayList<>();
    List<Integer> row = new ArrayList<>();
    List<int[]> watches = new ArrayList<>();
    TreeSet<Integer> links = new TreeSet<>();
    int[] names = {-1, -1, -1, -1};
    ArrayDeque<Integer> todo = new ArrayDeque<>();
    int now, lost, turns, begun;

    Oracle copy() {
        Oracle c = new Oracle();
        for (List<List<int[]>> m : modules) {
            List<List<int[]>> n = new ArrayList<>();
            for (List<int[]> v : m) {
                n.add(new ArrayList<>(v));
            }
            c.modules.add(n);
        }
        for (List<int[]> s : specs) {
            c.specs.add(new ArrayList<>(s));
        }
        c.touched.addAll(touched);
        c.supervised.addAll(supervised);
        for (P p : ps) {
            c.ps.add(p.copy());
        }
        c.row.addAll(row);
        c.watches.addAll(watches);
        c.links.addAll(links);
        c.names = names.clone();
        c.now = now;
        c.lost = lost;
        c.turns = turns;
        c.begun = begun;
        return c;
    }

    // ---- inner

    boolean isThere(int p) {
        return p >= 0 && p < ps.size();
    }

    boolean alive(int p) {
        return isThere(p) && ps.get(p).status != 2;
    }

    int current(int m) {
        return modules.get(m).size() - 1;
    }

    int make(int module, int spec, int sup) {
        P p = new P();
        p.id = ps.size();
        p.module = module;
        p.spec = spec;
        p.sup = sup;
        ps.add(p);
        if (spec < 0) {
            p.version = current(module);
            touched.add(module * 10 + p.version);
            row.add(p.id);
        } else {
            p.status = 1;
            p.pc = -1;
            supervised.add(spec);
        }
        return p.id;
    }

    void fill(P s, int place) {
        if (ps.size() == 24) {
            finish(s, 5);
            return;
        }
        int[] pl = specs.get(s.spec).get(1 + place);
        int c = pl[0] == 1 ? make(-1, pl[1], s.id) : make(pl[1], -1, s.id);
        s.child[place] = c;
        if (pl[0] == 1) {
            fillAll(ps.get(c), 0);
        }
    }

    void fillAll(P s, int from) {
        for (int k = from; k < specs.get(s.spec).size() - 1; k++) {
            if (s.status != 2 && !s.empty[k]) {
                fill(s, k);
            }
        }
    }

    void finish(P p, int reason) {
        if (p.status == 2) {
            throw new AssertionError("ended twice");
        }
        p.status = 2;
        p.reason = reason;
        p.until = -1;
        p.box.clear();
        row.remove((Integer) p.id);
        for (int k = 0; k < 4; k++) {
            if (names[k] == p.id) {
                names[k] = -1;
            }
        }
        todo.add(p.id);
    }

    int key(int p, int q) {
        return Math.min(p, q) * 100 + Math.max(p, q);
    }

    void settle() {
        while (!todo.isEmpty()) {
            P p = ps.get(todo.poll());
            if (p.spec >= 0) {
                drop(p, -1, 0);
            }
            for (int[] w : watches) {
                if (w[1] == p.id && alive(w[0])) {
                    post(w[0], 2, 10 * p.id + p.reason);
                }
            }
            for (int q = 0; q < ps.size(); q++) {
                if (links.remove(key(p.id, q))) {
                    signal0(q, p.id, p.reason);
                }
            }
            if (p.sup >= 0 && ps.get(p.sup).status != 2) {
                react(ps.get(p.sup), p);
            }
        }
    }

    void drop(P s, int but, int from) {
        for (int k = 3; k >= from; k--) {
            if (k != but && s.child[k] >= 0) {
                P c = ps.get(s.child[k]);
                if (c.status != 2) {
                    finish(c, 5);
                }
                c.sup = -1;
                s.child[k] = -1;
            }
        }
    }

    void react(P s, P c) {
        int place = -1;
        for (int k = 0; k < 4; k++) {
            if (s.child[k] == c.id) {
                place = k;
            }
        }
        int mode = specs.get(s.spec).get(1 + place)[2];
        int[] head = specs.get(s.spec).get(0);
        if (mode == 2 || (mode == 1 && c.reason == 0)) {
            s.empty[place] = true;
            s.child[place] = -1;
            return;
        }
        s.restarts.add(now);
        if (lately(s) > head[1]) {
            finish(s, 5);
        } else if (head[0] == 0) {
            fill(s, place);
        } else if (head[0] == 1) {
            drop(s, place, 0);
            fillAll(s, 0);
        } else {
            drop(s, place, place);
            fillAll(s, place);
        }
    }

    int lately(P s) {
        int within = specs.get(s.spec).get(0)[2];
        int n = 0;
        for (int t : s.restarts) {
            if (t > now - within) {
                n++;
            }
        }
        return n;
    }

    boolean post(int to, int tag, int number) {
        if (!alive(to) || ps.get(to).spec >= 0 || ps.get(to).box.size() == 8) {
            lost++;
            return false;
        }
        P p = ps.get(to);
        p.box.add(new int[] {tag, number});
        if (p.status == 1 && p.wait[0] == 14 && (p.wait[1] == tag || p.wait[1] == 4)) {
            wake(p);
        }
        return true;
    }

    void wake(P p) {
        p.status = 0;
        p.until = -1;
        row.add(p.id);
    }

    void signal0(int to, int from, int reason) {
        if (!alive(to)) {
            return;
        }
        P p = ps.get(to);
        if (reason == 9) {
            finish(p, 8);
        } else if (p.spec < 0 && p.trap) {
            post(to, 3, 10 * from + reason);
        } else if (p.spec < 0 && reason != 0) {
            finish(p, reason);
        }
    }

    int first(P p, int tag) {
        for (int k = 0; k < p.box.size(); k++) {
            if (tag == 4 || p.box.get(k)[0] == tag) {
                return k;
            }
        }
        return -1;
    }

    int held(int v) {
        return v > 9999 ? 9999 : v < -9999 ? -9999 : v;
    }

    boolean turn() {
        if (row.isEmpty()) {
            return false;
        }
        P p = ps.get(row.remove(0));
        turns++;
        if (p.wait != null) {
            if (p.wait[0] == 14) {
                int k = first(p, p.wait[1]);
                p.there = k < 0 ? -1 : held(p.box.remove(k)[1]);
            }
            p.wait = null;
            p.pc++;
        }
        int done = 0;
        while (p.status == 0 && done < 20) {
            List<int[]> code = modules.get(p.module).get(p.version);
            if (p.pc >= code.size()) {
                finish(p, 0);
                settle();
                break;
            }
            begun++;
            done++;
            int goal = step(p, code.get(p.pc));
            settle();
            if (p.status == 0) {
                p.pc = goal;
            }
        }
        if (p.status == 0) {
            row.add(p.id);
        }
        return true;
    }

    int step(P p, int[] line) {
        int a = line[1];
        int b = line[2];
        int n = p.there;
        switch (line[0]) {
            case 0 -> p.there = held(n + a);
            case 1 -> p.there = p.local[a];
            case 2 -> p.local[a] = n;
            case 3 -> {
                if (p.local[a] > 0) {
                    p.local[a]--;
                    return b;
                }
            }
            case 4 -> {
                if (n <= 0) {
                    return b;
                }
            }
            case 5 -> finish(p, a);
            case 6 -> {
                if (a >= modules.size() || ps.size() == 24) {
                    finish(p, 5);
                } else {
                    p.there = make(a, -1, -1);
                    if (b == 1) {
                        links.add(key(p.id, p.there));
                    }
                }
            }
            case 7 -> {
                if (!alive(n)) {
                    signal0(p.id, n, 7);
                } else if (n != p.id) {
                    links.add(key(p.id, n));
                }
            }
            case 8 -> links.remove(n >= 0 && n < 24 ? key(p.id, n) : -1);
            case 9 -> {
                if (alive(n)) {
                    watches.add(new int[] {p.id, n});
                } else {
                    post(p.id, 2, 10 * n + 7);
                }
            }
            case 10 -> p.trap = a == 1;
            case 11 -> {
                if (names[a] >= 0 && names[a] != p.id) {
                    finish(p, 6);
                } else {
                    names[a] = p.id;
                }
            }
            case 12 -> post(n, a, p.local[3]);
            case 13 -> {
                if (names[a] < 0) {
                    finish(p, 6);
                } else {
                    post(names[a], b, n);
                }
            }
            case 14 -> {
                int k = first(p, a);
                if (k >= 0) {
                    p.there = held(p.box.remove(k)[1]);
                } else {
                    p.status = 1;
                    p.wait = line;
                    p.until = b > 0 ? now + b : -1;
                }
            }
            case 15 -> {
                p.status = 1;
                p.wait = line;
                p.until = now + a;
            }
            case 16 -> {
                p.version = current(p.module);
                touched.add(p.module * 10 + p.version);
                return 0;
            }
            case 17 -> signal0(n, p.id, a);
            default -> throw new AssertionError("kind");
        }
        return p.pc + 1;
    }

    int purge(int m) {
        int was = current(m);
        modules.get(m).add(new ArrayList<>());
        int before = overs();
        for (int k = 0; k < ps.size(); k++) {
            P p = ps.get(k);
            if (p.status != 2 && p.module == m && p.version < was) {
                finish(p, 8);
                settle();
            }
        }
        return overs() - before;
    }

    int overs() {
        int n = 0;
        for (P p : ps) {
            n += p.status == 2 ? 1 : 0;
        }
        return n;
    }

    int overSet() {
        int n = 0;
        for (P p : ps) {
            n |= p.status == 2 ? 1 << p.id : 0;
        }
        return n;
    }

    // ---- the face; who plays a call names it by its number

    static boolean in(int v, int lo, int hi) {
        return v >= lo && v <= hi;
    }

    long module() {
        if (modules.size() == 4) {
            return STATE;
        }
        List<List<int[]>> m = new ArrayList<>();
        m.add(new ArrayList<>());
        modules.add(m);
        return modules.size() - 1;
    }

    boolean lineFits(int kind, int a, int b, int own) {
        return switch (kind) {
            case 0 -> in(a, -99, 99) && b == 0;
            case 1, 2, 11 -> in(a, 0, 3) && b == 0;
            case 3 -> in(a, 0, 3) && in(b, 0, own);
            case 4 -> a == 0 && b > own && b <= 12;
            case 5 -> in(a, 0, 7) && b == 0;
            case 6 -> in(a, 0, 3) && in(b, 0, 1);
            case 7, 8, 9, 16 -> a == 0 && b == 0;
            case 10, 12 -> in(a, 0, 1) && b == 0;
            case 13 -> in(a, 0, 3) && in(b, 0, 1);
            case 14 -> in(a, 0, 4) && in(b, 0, 9);
            case 15, 17 -> in(a, 1, 9) && b == 0;
            default -> false;
        };
    }

    long line(int m, int kind, int a, int b) {
        if (!in(m, 0, modules.size() - 1)) {
            return INDEX;
        }
        List<int[]> code = modules.get(m).get(current(m));
        if (!lineFits(kind, a, b, code.size())) {
            return ARGUMENT;
        }
        if (touched.contains(m * 10 + current(m)) || code.size() == 12) {
            return STATE;
        }
        code.add(new int[] {kind, a, b});
        return code.size() - 1;
    }

    long load(int m) {
        if (!in(m, 0, modules.size() - 1)) {
            return INDEX;
        }
        return modules.get(m).size() == 4 ? STATE : purge(m);
    }

    long spec(int strategy, int most, int within) {
        if (!in(strategy, 0, 2) || !in(most, 0, 3) || !in(within, 1, 9)) {
            return ARGUMENT;
        }
        if (specs.size() == 5) {
            return STATE;
        }
        List<int[]> s = new ArrayList<>();
        s.add(new int[] {strategy, most, within});
        specs.add(s);
        return specs.size() - 1;
    }

    long place(int s, boolean isSpec, int number, int mode) {
        if (!in(s, 0, specs.size() - 1)) {
            return INDEX;
        }
        if (!in(number, 0, isSpec ? s - 1 : modules.size() - 1) || !in(mode, 0, 2)) {
            return ARGUMENT;
        }
        if (supervised.contains(s) || specs.get(s).size() == 5) {
            return STATE;
        }
        specs.get(s).add(new int[] {isSpec ? 1 : 0, number, mode});
        return specs.get(s).size() - 2;
    }

    long ofModule(int m, int what) {
        if (!in(m, 0, modules.size() - 1)) {
            return INDEX;
        }
        if (!in(what, 0, 4)) {
            return ARGUMENT;
        }
        int now = 0;
        int old = 0;
        int made = 0;
        for (P p : ps) {
            if (p.module == m) {
                made++;
                if (p.status != 2 && p.version == current(m)) {
                    now |= 1 << p.id;
                } else if (p.status != 2) {
                    old |= 1 << p.id;
                }
            }
        }
        int[] all = {modules.get(m).size(), modules.get(m).get(current(m)).size(), now, old, made};
        return all[what];
    }

    long start(int m) {
        if (!in(m, 0, modules.size() - 1)) {
            return INDEX;
        }
        return ps.size() == 24 ? STATE : make(m, -1, -1);
    }

    long supervise(int s) {
        if (!in(s, 0, specs.size() - 1)) {
            return INDEX;
        }
        if (ps.size() == 24) {
            return STATE;
        }
        int n = make(-1, s, -1);
        fillAll(ps.get(n), 0);
        settle();
        return n;
    }

    long run(int n) {
        if (!in(n, 1, 50)) {
            return ARGUMENT;
        }
        int done = 0;
        while (done < n && turn()) {
            done++;
        }
        return done;
    }

    long tick(int n) {
        if (!in(n, 1, 20)) {
            return ARGUMENT;
        }
        int woken = 0;
        for (int k = 0; k < n; k++) {
            now++;
            for (P p : ps) {
                if (p.status == 1 && p.until == now) {
                    wake(p);
                    woken++;
                }
            }
        }
        return woken;
    }

    long send(int p, int tag, int number) {
        if (!isThere(p)) {
            return INDEX;
        }
        if (!in(tag, 0, 1) || !in(number, -999, 999)) {
            return ARGUMENT;
        }
        return post(p, tag, number) ? 1 : 0;
    }

    long signal(int p, int reason) {
        if (!isThere(p)) {
            return INDEX;
        }
        if (!in(reason, 0, 9)) {
            return ARGUMENT;
        }
        int before = overs();
        signal0(p, p, reason);
        settle();
        return overs() - before;
    }

    long ofProcess(int n, int what) {
        if (!isThere(n)) {
            return INDEX;
        }
        if (!in(what, 0, 12)) {
            return ARGUMENT;
        }
        P p = ps.get(n);
        int set = 0;
        for (int q = 0; q < 24; q++) {
            set |= links.contains(key(n, q)) && q != n ? 1 << q : 0;
        }
        int w = 0;
        for (int[] pair : watches) {
            w += pair[1] == n && alive(pair[0]) && p.status != 2 ? 1 : 0;
        }
        int[] all = {p.module, p.version, p.status, p.reason, row.indexOf(n), p.there, p.pc, p.until,
            p.box.size(), set, p.trap ? 1 : 0, p.status == 2 ? -1 : p.sup, w};
        return all[what];
    }

    long local(int p, int k) {
        return !isThere(p) || !in(k, 0, 3) ? INDEX : ps.get(p).local[k];
    }

    long mail(int p, int k, int what) {
        if (!isThere(p) || !in(k, 0, ps.get(p).box.size() - 1)) {
            return INDEX;
        }
        return in(what, 0, 1) ? ps.get(p).box.get(k)[what] : ARGUMENT;
    }

    long ofSupervisor(int n, int what) {
        if (!isThere(n)) {
            return INDEX;
        }
        if (!in(what, 0, 6)) {
            return ARGUMENT;
        }
        P p = ps.get(n);
        if (p.spec < 0) {
            return -1;
        }
        int[] all = {p.spec, p.child[0], p.child[1], p.child[2], p.child[3], p.restarts.size(), lately(p)};
        return all[what];
    }

    long named(int k) {
        return in(k, 0, 3) ? names[k] : INDEX;
    }

    long many(int what) {
        if (!in(what, 0, 12)) {
            return ARGUMENT;
        }
        int waits = 0;
        int sups = 0;
        int mails = 0;
        for (P p : ps) {
            waits += p.status == 1 ? 1 : 0;
            sups += p.spec >= 0 ? 1 : 0;
            mails += p.box.size();
        }
        int[] all = {modules.size(), specs.size(), ps.size(), row.size(), waits, overs(), sups, links.size(),
            mails, lost, now, turns, begun};
        return all[what];
    }

    double meanLines() {
        long workers = ps.size() - many(6);
        return workers == 0 ? 0 : (double) begun / workers;
    }

    long wouldFall(int p, int reason) {
        if (!isThere(p)) {
            return INDEX;
        }
        if (!in(reason, 0, 9)) {
            return ARGUMENT;
        }
        Oracle c = copy();
        c.signal(p, reason);
        return c.overSet() & ~overSet();
    }

    long wouldPurge(int m) {
        if (!in(m, 0, modules.size() - 1)) {
            return INDEX;
        }
        Oracle c = copy();
        c.purge(m);
        return c.overSet() & ~overSet();
    }

    long overBy(int ticks, int n) {
        if (!in(ticks, 1, 20) || !in(n, 1, 50)) {
            return ARGUMENT;
        }
        Oracle c = copy();
        for (int k = 0; k < ticks; k++) {
            c.tick(1);
            c.run(n);
        }
        return c.overs();
    }

    long passedOver(int p, int tag) {
        if (!isThere(p)) {
            return INDEX;
        }
        return in(tag, 0, 4) ? first(ps.get(p), tag) : ARGUMENT;
    }

    long digest() {
        List<Long> vs = new ArrayList<>();
        for (int k = 0; k <= 12; k++) {
            vs.add(many(k));
        }
        for (int m = 0; m < modules.size(); m++) {
            for (int k = 0; k <= 4; k++) {
                vs.add(ofModule(m, k));
            }
            vs.add(wouldPurge(m));
        }
        for (int p = 0; p < ps.size(); p++) {
            for (int k = 0; k <= 12; k++) {
                vs.add(ofProcess(p, k));
            }
            for (int k = 0; k < 4; k++) {
                vs.add(local(p, k));
            }
            for (int k = 0; k < ps.get(p).box.size(); k++) {
                vs.add(mail(p, k, 0));
                vs.add(mail(p, k, 1));
            }
            for (int k = 0; k <= 6; k++) {
                vs.add(ofSupervisor(p, k));
            }
            vs.add(wouldFall(p, 0));
            vs.add(wouldFall(p, 1));
            vs.add(wouldFall(p, 9));
            vs.add(passedOver(p, 1));
        }
        for (int k = 0; k < 4; k++) {
            vs.add(named(k));
        }
        vs.add(overBy(1, 5));
        vs.add(overBy(3, 10));
        long d = 58144;
        for (long v : vs) {
            d = d * 31 + v;
        }
        return d;
    }
}
