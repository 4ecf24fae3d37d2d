import java.util.ArrayDeque;
import java.util.ArrayList;
import java.util.List;

/**
 * A second telling of the document, to compare the program with: it keeps as little as it can and works the rest out
 * (pointers, handles, rows) by looking through everything, at whatever cost.
 */
final class Model {
    private static final class Thing {
        int number, type, name, layers, count, owner = -1;
        long due = -1;
        boolean signaled, abandoned;
        final List<int[]> rules = new ArrayList<>();
        final List<Integer> row = new ArrayList<>();
    }

    private static final class Grip {
        Thing thing;
        int rights;
    }

    private static final class Proc {
        int groups;
        final Grip[] grips = new Grip[8];
    }

    private enum Condition { RUNS, READY, WAITS, ENDED }

    private static final class Fiber {
        int number, proc, priority, result = ExecutiveDesk.WAITING, delivered, latest, used, how;
        Condition condition = Condition.READY;
        /** The smallest stands first in its row; a number below all others puts one in front. */
        long readyStamp;
        long waitStamp;
        long until;
        Thing[] wanted = new Thing[3];
        final ArrayDeque<Integer> calls = new ArrayDeque<>();
    }

    private static final class Move {
        int status, amount, fiber, device, length;
        boolean cancel, retried;
        Thing target, on;
    }

    private static final class Signal {
        Thing device;
        boolean well;
    }

    private final List<Proc> procs = new ArrayList<>();
    private final List<Fiber> fibers = new ArrayList<>();
    private final Thing[] things = new Thing[16];
    private final Move[] moves = new Move[8];
    private final ArrayDeque<Signal> signals = new ArrayDeque<>();
    private Fiber now;
    private Fiber lastOne;
    private int clock, level, switches, over;
    private long backStamp, frontStamp, waitStamp;

    int process(int groups) {
        if ((groups & ~255) != 0) return ExecutiveDesk.REFUSED;
        if (procs.size() >= 4) return ExecutiveDesk.FULL;
        Proc p = new Proc();
        p.groups = groups;
        procs.add(p);
        return procs.size() - 1;
    }

    int thread(int p, int priority) {
        if (p < 0 || p >= procs.size() || ended(p) || (priority & ~7) != 0) return ExecutiveDesk.REFUSED;
        if (fibers.size() >= 8) return ExecutiveDesk.FULL;
        Fiber f = new Fiber();
        f.number = fibers.size();
        f.proc = p;
        f.priority = priority;
        fibers.add(f);
        ready(f);
        look();
        return f.number;
    }

    int create(int type, int a, int name) {
        if (now == null) return ExecutiveDesk.NOBODY;
        int[] most = {1, 1, 1, 9, 0, 7};
        if (type < 0 || type > 5 || a < 0 || a > most[type] || name < -1 || name > 15) return ExecutiveDesk.REFUSED;
        if (name >= 0 && named(name) != null) return ExecutiveDesk.TAKEN;
        int h = freeGrip();
        int o = 0;
        while (o < 16 && things[o] != null) o++;
        if (h == 8 || o == 16) return ExecutiveDesk.FULL;
        Thing x = new Thing();
        x.number = o;
        x.type = type;
        x.name = name;
        if (type <= 1) x.signaled = a == 1;
        if (type == 2 && a == 1) {
            x.owner = now.number;
            x.count = 1;
        }
        if (type == 3) x.count = a;
        if (type == 5) x.layers = a;
        things[o] = x;
        grip(h, x, 7);
        return h;
    }

    int open(int name, int rights) {
        if (now == null) return ExecutiveDesk.NOBODY;
        if (name < 0 || name > 15 || rights < 1 || rights > 7) return ExecutiveDesk.REFUSED;
        Thing x = named(name);
        if (x == null) return ExecutiveDesk.NONE;
        if (!granted(x, rights)) return ExecutiveDesk.DENIED;
        int h = freeGrip();
        if (h == 8) return ExecutiveDesk.FULL;
        grip(h, x, rights);
        return h;
    }

    private boolean granted(Thing x, int rights) {
        if (x.rules.isEmpty()) return true;
        boolean[] wanted = {(rights & 1) > 0, (rights & 2) > 0, (rights & 4) > 0};
        for (int[] r : x.rules) {
            if ((procs.get(now.proc).groups >> r[1] & 1) == 0) continue;
            for (int bit = 0; bit < 3; bit++) {
                if ((r[2] >> bit & 1) == 1 && wanted[bit]) {
                    if (r[0] == 0) return false;
                    wanted[bit] = false;
                }
            }
        }
        return !wanted[0] && !wanted[1] && !wanted[2];
    }

    int close(int h) {
        if (now == null) return ExecutiveDesk.NOBODY;
        Grip g = gripOf(h);
        if (g == null) return ExecutiveDesk.REFUSED;
        procs.get(now.proc).grips[h] = null;
        int left = handles(g.thing);
        sweep();
        return left;
    }

    int rule(int h, int kind, int group, int rights) {
        if (now == null) return ExecutiveDesk.NOBODY;
        Grip g = gripOf(h);
        if (g == null || kind < 0 || kind > 1 || group < 0 || group > 7 || rights < 1 || rights > 7) return ExecutiveDesk.REFUSED;
        if ((g.rights & 2) == 0) return ExecutiveDesk.DENIED;
        if (g.thing.rules.size() >= 4) return ExecutiveDesk.FULL;
        g.thing.rules.add(new int[] {kind, group, rights});
        return g.thing.rules.size();
    }

    int set(int h, int n) {
        if (now == null) return ExecutiveDesk.NOBODY;
        Grip g = gripOf(h);
        if (g == null || g.thing.type == 5) return ExecutiveDesk.REFUSED;
        Thing x = g.thing;
        int[] least = {0, 0, 1, 1, 0};
        int[] most = {1, 1, 1, 9, 99};
        if (n < least[x.type] || n > most[x.type]) return ExecutiveDesk.REFUSED;
        if ((g.rights & 2) == 0) return ExecutiveDesk.DENIED;
        if (x.type == 3 && x.count + n > 9) return ExecutiveDesk.LIMIT;
        if (x.type == 2 && x.owner != now.number) return ExecutiveDesk.NOT_OWNER;
        int answer = x.type == 3 ? x.count : x.type == 2 ? x.count - 1 : x.signaled ? 1 : 0;
        if (x.type <= 1) x.signaled = n == 1;
        if (x.type == 2 && --x.count == 0) x.owner = -1;
        if (x.type == 3) x.count += n;
        if (x.type == 4) {
            x.signaled = false;
            x.due = n == 0 ? -1 : clock + n;
        }
        release();
        look();
        return answer;
    }

    int await(int h1, int h2, int h3, int how, int timeout) {
        if (now == null) return ExecutiveDesk.NOBODY;
        if (level == 1) return ExecutiveDesk.HIGH;
        if (how < 0 || how > 3 || timeout < -1 || timeout > 99) return ExecutiveDesk.REFUSED;
        int[] hs = {h1, h2, h3};
        Thing[] wanted = new Thing[3];
        boolean denied = false;
        for (int i = 0; i < 3; i++) {
            if (i > 0 && hs[i] == -1) continue;
            Grip g = gripOf(hs[i]);
            if (g == null || g.thing.type == 5) return ExecutiveDesk.REFUSED;
            for (int j = 0; j < i; j++) if (wanted[j] == g.thing) return ExecutiveDesk.REFUSED;
            wanted[i] = g.thing;
            denied |= g.rights < 4;
        }
        if (denied) return ExecutiveDesk.DENIED;
        if (how >= 2 && !now.calls.isEmpty()) {
            deliver(now);
            return ExecutiveDesk.ALERTED;
        }
        int result = attempt(now, wanted, how % 2 == 1);
        if (result >= 0) return result;
        if (timeout == 0) return ExecutiveDesk.TIMEOUT;
        now.wanted = wanted;
        now.how = how;
        now.until = timeout == -1 ? -1 : clock + timeout;
        now.waitStamp = ++waitStamp;
        now.condition = Condition.WAITS;
        now.result = ExecutiveDesk.WAITING;
        now.used = 0;
        now = null;
        look();
        return ExecutiveDesk.WAITING;
    }

    int call(int t, int n) {
        if (t < 0 || t >= fibers.size() || fibers.get(t).condition == Condition.ENDED || n < 1 || n > 99) return ExecutiveDesk.REFUSED;
        Fiber f = fibers.get(t);
        if (f.calls.size() == 4) return ExecutiveDesk.FULL;
        f.calls.add(n);
        alert(f);
        look();
        return f.calls.size();
    }

    int level(int to) {
        if (now == null) return ExecutiveDesk.NOBODY;
        if (to != 0 && to != 1) return ExecutiveDesk.REFUSED;
        int was = level;
        level = to;
        if (to == 0) {
            while (!signals.isEmpty()) {
                Signal s = signals.poll();
                finish(s.device, s.well);
            }
            sweep();
            for (Fiber f : fibers) alert(f);
            look();
        }
        return was;
    }

    int interrupt(int o, boolean well) {
        if (o < 0 || o > 15 || things[o] == null || things[o].type != 5) return ExecutiveDesk.REFUSED;
        if (level == 0) {
            finish(things[o], well);
            look();
            return 1;
        }
        if (signals.size() == 8) return ExecutiveDesk.FULL;
        Signal s = new Signal();
        s.device = things[o];
        s.well = well;
        signals.add(s);
        return 0;
    }

    int transfer(int h, int place, int length, int e) {
        if (now == null) return ExecutiveDesk.NOBODY;
        Grip g = gripOf(h);
        Grip to = gripOf(e);
        if (g == null || g.thing.type != 5 || place < 0 || place > 255 || length < 1 || length > 99) return ExecutiveDesk.REFUSED;
        if (e != -1 && (to == null || to.thing.type > 1)) return ExecutiveDesk.REFUSED;
        if (g.rights % 2 == 0 || to != null && (to.rights & 2) == 0) return ExecutiveDesk.DENIED;
        int i = 0;
        while (i < 8 && moves[i] != null && moves[i].status == 0) i++;
        if (i == 8) return ExecutiveDesk.FULL;
        Move m = new Move();
        m.fiber = now.number;
        m.on = g.thing;
        m.device = g.thing.number;
        m.length = length;
        m.target = to == null ? null : to.thing;
        moves[i] = m;
        boolean filter = g.thing.layers % 2 == 1;
        boolean volume = g.thing.layers / 2 % 2 == 1;
        if (filter && length > 64) {
            end(m, 2, 0);
        } else if (volume && place > 127) {
            end(m, 3, 0);
        } else {
            if (volume && place + length > 128) m.length = 128 - place;
            g.thing.row.add(i);
        }
        look();
        return i;
    }

    int cancel(int i) {
        if (now == null) return ExecutiveDesk.NOBODY;
        if (i < 0 || i > 7 || moves[i] == null || moves[i].status != 0) return ExecutiveDesk.REFUSED;
        int answer = stop(i);
        look();
        return answer;
    }

    int exit() {
        if (now == null) return ExecutiveDesk.NOBODY;
        if (level == 1) return ExecutiveDesk.HIGH;
        Fiber f = now;
        f.condition = Condition.ENDED;
        now = null;
        for (Thing x : things.clone()) {
            if (x != null && x.type == 2 && x.owner == f.number) {
                x.owner = -1;
                x.count = 0;
                x.abandoned = true;
                release();
            }
        }
        for (int i = 0; i < 8; i++) {
            if (moves[i] != null && moves[i].status == 0 && moves[i].fiber == f.number) stop(i);
        }
        f.calls.clear();
        if (ended(f.proc)) {
            for (int h = 0; h < 8; h++) procs.get(f.proc).grips[h] = null;
            sweep();
        }
        look();
        return f.number;
    }

    int tick(int n) {
        if (n < 1 || n > 9) return ExecutiveDesk.REFUSED;
        while (n-- > 0) {
            Fiber before = now;
            clock++;
            for (Thing x : things.clone()) {
                if (x != null && x.type == 4 && x.due == clock) {
                    x.due = -1;
                    x.signaled = true;
                    release();
                }
            }
            for (Fiber f : fibers) {
                if (f.condition == Condition.WAITS && f.until == clock) wake(f, ExecutiveDesk.TIMEOUT);
            }
            look();
            if (level == 0 && before != null && before == now && ++before.used == 3) {
                before.used = 0;
                Fiber next = next();
                if (next != null && next.priority == before.priority) {
                    ready(before);
                    run(next);
                }
            }
        }
        return clock;
    }

    int actor(int t, int what) {
        if (t < 0 || t >= fibers.size()) return ExecutiveDesk.REFUSED;
        Fiber f = fibers.get(t);
        int left = f.condition != Condition.WAITS || f.until == -1 ? -1 : (int) (f.until - clock);
        int[] all = {f.condition.ordinal(), f.proc, f.priority, f.result, f.calls.size(), f.delivered, f.latest, f.used, left};
        return pick(all, what);
    }

    int object(int o, int what) {
        if (o < 0 || o > 15 || things[o] == null) return ExecutiveDesk.REFUSED;
        Thing x = things[o];
        int five = x.type == 2 ? x.owner
            : x.type == 4 ? x.due == -1 ? 0 : (int) (x.due - clock)
            : x.type == 5 ? x.row.isEmpty() ? -1 : x.row.get(0) : 0;
        int four = x.type == 5 ? x.row.size() : x.type == 2 || x.type == 3 ? x.count : x.signaled ? 1 : 0;
        int[] all = {x.type, handles(x) == 0 ? -1 : x.name, handles(x), pointers(x), four, five, x.abandoned ? 1 : 0, x.rules.size()};
        return pick(all, what);
    }

    int io(int i, int what) {
        if (i < 0 || i > 7 || moves[i] == null) return ExecutiveDesk.REFUSED;
        Move m = moves[i];
        int[] all = {m.status, m.amount, m.fiber, m.device, m.length, m.status == 0 && m.cancel ? 1 : 0, m.retried ? 1 : 0};
        return pick(all, what);
    }

    int handle(int p, int h, int what) {
        if (p < 0 || p >= procs.size() || h < 0 || h > 7 || procs.get(p).grips[h] == null) return ExecutiveDesk.REFUSED;
        Grip g = procs.get(p).grips[h];
        return pick(new int[] {g.thing.number, g.rights}, what);
    }

    int count(int what) {
        int there = 0;
        for (Thing x : things) if (x != null) there++;
        int[] all = {now == null ? -1 : now.number, clock, level, procs.size(), fibers.size(), there, signals.size(), switches, over};
        return pick(all, what);
    }

    private static int pick(int[] all, int what) {
        return what < 0 || what >= all.length ? ExecutiveDesk.REFUSED : all[what];
    }

    private boolean ended(int p) {
        boolean had = false;
        for (Fiber f : fibers) {
            if (f.proc == p) {
                had = true;
                if (f.condition != Condition.ENDED) return false;
            }
        }
        return had;
    }

    private Thing named(int name) {
        for (Thing x : things) if (x != null && x.name == name && handles(x) > 0) return x;
        return null;
    }

    private int freeGrip() {
        int h = 0;
        while (h < 8 && procs.get(now.proc).grips[h] != null) h++;
        return h;
    }

    private Grip gripOf(int h) {
        return h < 0 || h > 7 ? null : procs.get(now.proc).grips[h];
    }

    private void grip(int h, Thing x, int rights) {
        Grip g = new Grip();
        g.thing = x;
        g.rights = rights;
        procs.get(now.proc).grips[h] = g;
    }

    private int handles(Thing x) {
        int n = 0;
        for (Proc p : procs) for (Grip g : p.grips) if (g != null && g.thing == x) n++;
        return n;
    }

    private int pointers(Thing x) {
        int n = 0;
        for (Fiber f : fibers) {
            if (f.condition == Condition.WAITS) for (Thing w : f.wanted) if (w == x) n++;
        }
        for (Move m : moves) if (m != null && m.status == 0) n += (m.on == x ? 1 : 0) + (m.target == x ? 1 : 0);
        for (Signal s : signals) if (s.device == x) n++;
        return n;
    }

    private void sweep() {
        for (int o = 0; o < 16; o++) {
            if (things[o] != null && handles(things[o]) + pointers(things[o]) == 0) things[o] = null;
        }
    }

    private void ready(Fiber f) {
        f.condition = Condition.READY;
        f.readyStamp = ++backStamp;
    }

    private Fiber next() {
        Fiber best = null;
        for (Fiber f : fibers) {
            if (f.condition != Condition.READY) continue;
            if (best == null || f.priority > best.priority || f.priority == best.priority && f.readyStamp < best.readyStamp) best = f;
        }
        return best;
    }

    private void look() {
        if (level == 1) return;
        Fiber next = next();
        if (next == null || now != null && now.priority >= next.priority) return;
        if (now != null) {
            now.condition = Condition.READY;
            now.readyStamp = --frontStamp;
        }
        run(next);
    }

    private void run(Fiber f) {
        now = f;
        f.condition = Condition.RUNS;
        if (f != lastOne) switches++;
        lastOne = f;
    }

    private boolean signaled(Thing x, Fiber f) {
        if (x.type == 2) return x.owner == -1 || x.owner == f.number && x.count < 9;
        return x.type == 3 ? x.count > 0 : x.signaled;
    }

    private int take(Thing x, Fiber f) {
        int more = x.abandoned ? 16 : 0;
        x.abandoned = false;
        if (x.type == 1) x.signaled = false;
        if (x.type == 2) {
            x.owner = f.number;
            x.count++;
        }
        if (x.type == 3) x.count--;
        return more;
    }

    private int attempt(Fiber f, Thing[] wanted, boolean all) {
        int more = 0;
        if (!all) {
            for (int i = 0; i < 3; i++) if (wanted[i] != null && signaled(wanted[i], f)) return i + take(wanted[i], f);
            return -1;
        }
        for (Thing x : wanted) if (x != null && !signaled(x, f)) return -1;
        for (Thing x : wanted) if (x != null) more |= take(x, f);
        return more;
    }

    private void release() {
        List<Fiber> row = new ArrayList<>();
        for (Fiber f : fibers) if (f.condition == Condition.WAITS) row.add(f);
        row.sort((a, b) -> Long.compare(a.waitStamp, b.waitStamp));
        for (Fiber f : row) {
            int result = attempt(f, f.wanted, f.how % 2 == 1);
            if (result >= 0) wake(f, result);
        }
    }

    private void wake(Fiber f, int result) {
        f.result = result;
        ready(f);
        sweep();
    }

    private void alert(Fiber f) {
        if (level == 0 && f.condition == Condition.WAITS && f.how >= 2 && !f.calls.isEmpty()) {
            wake(f, ExecutiveDesk.ALERTED);
            deliver(f);
        }
    }

    private void deliver(Fiber f) {
        while (!f.calls.isEmpty()) {
            f.latest = f.calls.poll();
            f.delivered++;
        }
    }

    private void finish(Thing device, boolean well) {
        if (device.row.isEmpty()) return;
        int i = device.row.remove(0);
        Move m = moves[i];
        if (m.cancel) {
            end(m, 5, 0);
        } else if (well) {
            end(m, 1, m.length);
        } else if ((device.layers & 5) == 5 && !m.retried) {
            m.retried = true;
            device.row.add(i);
        } else {
            end(m, 4, 0);
        }
    }

    private int stop(int i) {
        Move m = moves[i];
        if (m.on.row.get(0) == i) {
            m.cancel = true;
            return 0;
        }
        m.on.row.remove(Integer.valueOf(i));
        end(m, 5, 0);
        return 1;
    }

    private void end(Move m, int status, int amount) {
        m.status = status;
        m.amount = amount;
        over++;
        if (m.target != null) {
            m.target.signaled = true;
            release();
        }
        sweep();
    }
}
