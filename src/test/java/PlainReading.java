import java.util.ArrayList;
import java.util.List;

/**
 * The document read word by word, without a thought for speed: nothing that can be told from
 * something else is kept. Sums, pressure and periods are counted anew from all ticks that were closed.
 */
final class PlainReading {
    private static final class G {
        int kind;
        int under;
        int weight = 100;
        boolean frozen;
        int most = -1;
        int save;
        int saved;
        int least;
        int high = -1;
        int top = -1;
        long vtime;
        long floor;

        G like() {
            G g = new G();
            g.kind = kind;
            g.under = under;
            g.weight = weight;
            g.frozen = frozen;
            g.most = most;
            g.save = save;
            g.saved = saved;
            g.least = least;
            g.high = high;
            g.top = top;
            g.vtime = vtime;
            g.floor = floor;
            return g;
        }
    }

    private static final class T {
        int under;
        int weight = 100;
        long vtime;
        int work;
        int kept;
        int loose;
        int aside;
        int worth;
        int touch;
        boolean gone;

        T like() {
            T t = new T();
            t.under = under;
            t.weight = weight;
            t.vtime = vtime;
            t.work = work;
            t.kept = kept;
            t.loose = loose;
            t.aside = aside;
            t.worth = worth;
            t.touch = touch;
            t.gone = gone;
            return t;
        }
    }

    /** A tick that was closed: who wanted, who did one, and which tasks were in which group then. */
    private static final class Closed {
        long wanted;
        long did;
        long[] members;
        int[] who;
    }

    private static final class World {
        List<G> groups = new ArrayList<>();
        List<T> tasks = new ArrayList<>();
        List<Closed> ticks = new ArrayList<>();
        List<int[]> gone = new ArrayList<>();

        World like() {
            World w = new World();
            for (G g : groups) {
                w.groups.add(g.like());
            }
            for (T t : tasks) {
                w.tasks.add(t.like());
            }
            w.ticks.addAll(ticks);
            w.gone.addAll(gone);
            return w;
        }
    }

    private final int p;
    private final int m;
    private final int s;
    private World w = new World();
    private World image;
    private final int[] did = new int[3];
    /** Null, {1, heft, kind, number}, {2, heft}, {3, shorts ..}, {4, booleans ..}. */
    private final long[][] shelves = new long[8][];

    PlainReading(int processors, int cells, int aside) {
        p = 1 + ((processors % 4) + 4) % 4;
        m = 20 + ((cells % 81) + 81) % 81;
        s = ((aside % 41) + 41) % 41;
        G root = new G();
        root.under = -2;
        w.groups.add(root);
    }

    private int open() {
        return w.ticks.size() + 1;
    }

    private boolean isGroup(int g) {
        return g >= 0 && g < w.groups.size();
    }

    private boolean isTask(int t) {
        return t >= 0 && t < w.tasks.size();
    }

    private boolean present(int t) {
        return isTask(t) && !w.tasks.get(t).gone;
    }

    private int depth(int g) {
        return g == 0 ? 0 : 1 + depth(w.groups.get(g).under);
    }

    private boolean groupIn(int inner, int outer) {
        return inner == outer || (inner != 0 && groupIn(w.groups.get(inner).under, outer));
    }

    private boolean taskIn(int t, int g) {
        return groupIn(w.tasks.get(t).under, g);
    }

    private long members(int g) {
        long set = 0;
        for (int t = 0; t < w.tasks.size(); t++) {
            if (taskIn(t, g)) {
                set |= 1L << t;
            }
        }
        return set;
    }

    private int cells(int g) {
        int sum = 0;
        for (int t = 0; t < w.tasks.size(); t++) {
            if (taskIn(t, g)) {
                sum += w.tasks.get(t).kept + w.tasks.get(t).loose;
            }
        }
        return sum;
    }

    private int ticksOf(long set, int from, int to) {
        int sum = 0;
        for (int t = Math.max(from, 1); t <= Math.min(to, w.ticks.size()); t++) {
            sum += Long.bitCount(w.ticks.get(t - 1).did & set);
        }
        return sum;
    }

    private int used(long set) {
        return ticksOf(set, 1, w.ticks.size());
    }

    private int doneInPeriod(int g, int period) {
        return ticksOf(members(g), 10 * period + 1, 10 * period + 10);
    }

    private int room(int g) {
        G group = w.groups.get(g);
        return Math.max(0, group.most + group.saved - doneInPeriod(g, (open() - 1) / 10));
    }

    private boolean wants(int t) {
        T task = w.tasks.get(t);
        if (task.work == 0 || task.gone) {
            return false;
        }
        boolean didBefore = !w.ticks.isEmpty() && (w.ticks.get(w.ticks.size() - 1).did >> t & 1) == 1;
        boolean aboveHigh = false;
        for (int g = 0; g < w.groups.size(); g++) {
            if (taskIn(t, g)) {
                if (w.groups.get(g).frozen) {
                    return false;
                }
                aboveHigh |= w.groups.get(g).high != -1 && cells(g) > w.groups.get(g).high;
            }
        }
        return !(didBefore && aboveHigh);
    }

    private long wanting() {
        long set = 0;
        for (int t = 0; t < w.tasks.size(); t++) {
            if (wants(t)) {
                set |= 1L << t;
            }
        }
        return set;
    }

    /** Children by numbers: groups as they are, tasks as 100 and the number. */
    private List<Integer> children(int g) {
        List<Integer> list = new ArrayList<>();
        for (int i = 1; i < w.groups.size(); i++) {
            if (w.groups.get(i).under == g) {
                list.add(i);
            }
        }
        for (int i = 0; i < w.tasks.size(); i++) {
            if (w.tasks.get(i).under == g) {
                list.add(100 + i);
            }
        }
        return list;
    }

    private long vtimeOf(int child) {
        return child >= 100 ? w.tasks.get(child - 100).vtime : w.groups.get(child).vtime;
    }

    private boolean may(int child, Closed now, int[] doneNow) {
        if (child >= 100) {
            long bit = 1L << (child - 100);
            return (now.wanted & bit) != 0 && (now.did & bit) == 0;
        }
        if (w.groups.get(child).most != -1 && room(child) - doneNow[child] <= 0) {
            return false;
        }
        for (int c : children(child)) {
            if (may(c, now, doneNow)) {
                return true;
            }
        }
        return false;
    }

    private int choose(int g, Closed now, int[] doneNow) {
        int best = -1;
        for (int c : children(g)) {
            if (may(c, now, doneNow) && (best == -1 || vtimeOf(c) < vtimeOf(best))) {
                best = c;
            }
        }
        w.groups.get(g).floor = vtimeOf(best);
        return best >= 100 ? best - 100 : choose(best, now, doneNow);
    }

    private void lift(Closed now) {
        Closed before = w.ticks.isEmpty() ? null : w.ticks.get(w.ticks.size() - 1);
        for (int g = 1; g < w.groups.size(); g++) {
            G group = w.groups.get(g);
            boolean wanted = before != null && g < before.members.length
                    && (before.members[g] & before.wanted) != 0;
            if ((members(g) & now.wanted) != 0 && !wanted) {
                group.vtime = Math.max(group.vtime, w.groups.get(group.under).floor);
            }
        }
        for (int t = 0; t < w.tasks.size(); t++) {
            T task = w.tasks.get(t);
            boolean wanted = before != null && (before.wanted >> t & 1) == 1;
            if ((now.wanted >> t & 1) == 1 && !wanted) {
                task.vtime = Math.max(task.vtime, w.groups.get(task.under).floor);
            }
        }
    }

    private int oneTick() {
        Closed now = new Closed();
        now.wanted = wanting();
        now.members = new long[w.groups.size()];
        for (int g = 0; g < w.groups.size(); g++) {
            now.members[g] = members(g);
        }
        now.who = new int[p];
        lift(now);
        int[] doneNow = new int[w.groups.size()];
        for (int i = 0; i < p; i++) {
            now.who[i] = -2;
            if (!may(0, now, doneNow)) {
                continue;
            }
            int t = choose(0, now, doneNow);
            T task = w.tasks.get(t);
            task.work--;
            task.vtime += 1000000 / task.weight;
            now.who[i] = t;
            now.did |= 1L << t;
            for (int g = 0; g < w.groups.size(); g++) {
                if (taskIn(t, g)) {
                    doneNow[g]++;
                    w.groups.get(g).vtime += g == 0 ? 0 : 1000000 / w.groups.get(g).weight;
                }
            }
        }
        w.ticks.add(now);
        if ((open() - 1) % 10 == 0) {
            int before = (open() - 1) / 10 - 1;
            for (int g = 0; g < w.groups.size(); g++) {
                G group = w.groups.get(g);
                int rest = Math.max(0, group.saved + group.most - doneInPeriod(g, before));
                group.saved = group.kind == 1 && group.most != -1 ? Math.min(rest, group.save) : 0;
            }
        }
        return Long.bitCount(now.did);
    }

    int group(int under, int kind) {
        if (!isGroup(under) || kind < 0 || kind > 2 || depth(under) + 1 > 5) {
            return -1;
        }
        if (w.groups.size() == 20) {
            return -2;
        }
        G g = new G();
        g.kind = kind;
        g.under = under;
        w.groups.add(g);
        return w.groups.size() - 1;
    }

    int task(int under) {
        if (!isGroup(under)) {
            return -1;
        }
        if (w.tasks.size() == 32) {
            return -2;
        }
        T t = new T();
        t.under = under;
        w.tasks.add(t);
        return w.tasks.size() - 1;
    }

    int weight(int which, int weight) {
        if (weight < 1 || weight > 1000) {
            return -1;
        }
        if (which != 0 && isGroup(which)) {
            int before = w.groups.get(which).weight;
            w.groups.get(which).weight = weight;
            return before;
        }
        if (which >= 100 && isTask(which - 100)) {
            int before = w.tasks.get(which - 100).weight;
            w.tasks.get(which - 100).weight = weight;
            return before;
        }
        return -1;
    }

    int most(int group, int most, int save) {
        if (!isGroup(group) || most < -1 || most > 40 || save < 0 || save > 100) {
            return -1;
        }
        w.groups.get(group).most = most;
        w.groups.get(group).save = save;
        return 0;
    }

    private boolean leastsComeToMore() {
        for (int g = 0; g < w.groups.size(); g++) {
            int sum = 0;
            for (int c : children(g)) {
                sum += c < 100 ? w.groups.get(c).least : 0;
            }
            if (sum > (g == 0 ? m : w.groups.get(g).least)) {
                return true;
            }
        }
        return false;
    }

    int cellsOf(int group, int least, int high, int top) {
        if (!isGroup(group) || least < 0 || least > 100 || high < -1 || high > 100 || top < -1
                || top > 100 || (group == 0 && (least != 0 || top != -1))) {
            return -1;
        }
        G g = w.groups.get(group);
        int before = g.least;
        g.least = least;
        if (leastsComeToMore()) {
            g.least = before;
            return -3;
        }
        g.high = high;
        g.top = top;
        return 0;
    }

    int freeze(int group, boolean is) {
        if (!isGroup(group) || group == 0) {
            return -1;
        }
        int was = w.groups.get(group).frozen ? 1 : 0;
        w.groups.get(group).frozen = is;
        return was;
    }

    int move(int group, int under) {
        if (!isGroup(group) || !isGroup(under) || group == 0 || groupIn(under, group)) {
            return -1;
        }
        G g = w.groups.get(group);
        int before = g.under;
        g.under = under;
        boolean deep = false;
        for (int i = 0; i < w.groups.size(); i++) {
            deep |= depth(i) > 5;
        }
        if (deep || leastsComeToMore()) {
            g.under = before;
            return deep ? -1 : -3;
        }
        g.vtime = w.groups.get(under).floor;
        return 0;
    }

    int work(int task, int n) {
        if (!present(task) || n < 1 || n > 1000) {
            return -1;
        }
        T t = w.tasks.get(task);
        if (t.work + n > 100000) {
            return -1;
        }
        t.work += n;
        return t.work;
    }

    int worth(int task, int worth) {
        if (!present(task) || worth < 0 || worth > 1000) {
            return -1;
        }
        int before = w.tasks.get(task).worth;
        w.tasks.get(task).worth = worth;
        return before;
    }

    int run(int n) {
        if (n < 1 || n > 200) {
            return -1;
        }
        int sum = 0;
        for (int i = 0; i < n; i++) {
            sum += oneTick();
        }
        return sum;
    }

    int who(int processor) {
        if (processor < 0 || processor >= p) {
            return -1;
        }
        return w.ticks.isEmpty() ? -2 : w.ticks.get(w.ticks.size() - 1).who[processor];
    }

    private int topOf(int g) {
        return g == 0 ? m : w.groups.get(g).top;
    }

    private int pressedOne(int task, int n) {
        int lowest = -1;
        for (int g = 0; g < w.groups.size(); g++) {
            boolean above = taskIn(task, g) && topOf(g) != -1 && cells(g) + n > topOf(g);
            if (above && (lowest == -1 || depth(g) > depth(lowest))) {
                lowest = g;
            }
        }
        return lowest;
    }

    private int mayLose(int t, int pressed, int asker) {
        int least = 1000000;
        for (int g = 0; g < w.groups.size(); g++) {
            if (taskIn(t, g) && g != pressed && groupIn(g, pressed) && !taskIn(asker, g)) {
                least = Math.min(least, Math.max(0, cells(g) - w.groups.get(g).least));
            }
        }
        return least;
    }

    private boolean drop(int pressed, int asker, int by) {
        int one = -1;
        for (int t = 0; t < w.tasks.size(); t++) {
            if (taskIn(t, pressed) && w.tasks.get(t).loose > 0 && mayLose(t, pressed, asker) > 0
                    && (one == -1 || w.tasks.get(t).touch < w.tasks.get(one).touch)) {
                one = t;
            }
        }
        if (one == -1) {
            return false;
        }
        int n = Math.min(by, Math.min(w.tasks.get(one).loose, mayLose(one, pressed, asker)));
        w.tasks.get(one).loose -= n;
        did[0] += n;
        return true;
    }

    private int asideInAll() {
        int sum = 0;
        for (T t : w.tasks) {
            sum += t.aside;
        }
        return sum;
    }

    private boolean aside(int pressed, int asker, int by) {
        int one = -1;
        for (int t = 0; t < w.tasks.size(); t++) {
            if (taskIn(t, pressed) && w.tasks.get(t).kept > 0 && mayLose(t, pressed, asker) > 0
                    && (one == -1 || w.tasks.get(t).kept > w.tasks.get(one).kept)) {
                one = t;
            }
        }
        if (one == -1 || asideInAll() == s) {
            return false;
        }
        int n = Math.min(by, Math.min(w.tasks.get(one).kept, mayLose(one, pressed, asker)));
        n = Math.min(n, s - asideInAll());
        w.tasks.get(one).kept -= n;
        w.tasks.get(one).aside += n;
        did[1] += n;
        return true;
    }

    private boolean go(int pressed, int asker) {
        int one = -1;
        for (int i = 0; i < w.tasks.size(); i++) {
            T t = w.tasks.get(i);
            if (!taskIn(i, pressed) || t.kept + t.loose + t.aside == 0) {
                continue;
            }
            T b = one == -1 ? null : w.tasks.get(one);
            if (b == null || t.worth < b.worth
                    || (t.worth == b.worth && t.kept + t.loose > b.kept + b.loose)) {
                one = i;
            }
        }
        if (one == -1) {
            return false;
        }
        int whole = -1;
        for (int g = 0; g < w.groups.size(); g++) {
            if (taskIn(one, g) && groupIn(g, pressed) && w.groups.get(g).kind == 2
                    && (whole == -1 || depth(g) < depth(whole))) {
                whole = g;
            }
        }
        for (int i = 0; i < w.tasks.size(); i++) {
            T t = w.tasks.get(i);
            if (!t.gone && (i == one || (whole != -1 && taskIn(i, whole)))) {
                t.gone = true;
                t.work = 0;
                t.kept = 0;
                t.loose = 0;
                t.aside = 0;
                w.gone.add(new int[] {i, pressed, asker, open()});
                did[2]++;
            }
        }
        return true;
    }

    private int press(int task, int n) {
        did[0] = 0;
        did[1] = 0;
        did[2] = 0;
        int pressed = pressedOne(task, n);
        while (pressed != -1) {
            int by = cells(pressed) + n - topOf(pressed);
            if (!drop(pressed, task, by) && !aside(pressed, task, by) && !go(pressed, task)) {
                return -4;
            }
            if (w.tasks.get(task).gone) {
                return -3;
            }
            pressed = pressedOne(task, n);
        }
        w.tasks.get(task).touch = open();
        return 0;
    }

    int ask(int task, int n, boolean loose) {
        if (!present(task) || n < 1 || n > 200) {
            return -1;
        }
        int answer = press(task, n);
        if (answer != 0) {
            return answer;
        }
        T t = w.tasks.get(task);
        return loose ? (t.loose += n) : (t.kept += n);
    }

    int free(int task, int n, boolean loose) {
        if (!isTask(task) || n < 1) {
            return -1;
        }
        T t = w.tasks.get(task);
        if (n > (loose ? t.loose : t.kept)) {
            return -1;
        }
        return loose ? (t.loose -= n) : (t.kept -= n);
    }

    int back(int task) {
        if (!present(task) || w.tasks.get(task).aside == 0) {
            return -1;
        }
        T t = w.tasks.get(task);
        int n = t.aside;
        int answer = press(task, n);
        if (answer != 0) {
            return answer;
        }
        t.aside -= n;
        return t.kept += n;
    }

    int touch(int task) {
        if (!present(task)) {
            return -1;
        }
        int before = w.tasks.get(task).touch;
        w.tasks.get(task).touch = open();
        return before;
    }

    int look(int group, int what) {
        if (!isGroup(group)) {
            return -1;
        }
        G g = w.groups.get(group);
        int there = 0;
        for (int t = 0; t < w.tasks.size(); t++) {
            there += taskIn(t, group) && !w.tasks.get(t).gone ? 1 : 0;
        }
        int[] all = {g.kind, g.under, used(members(group)), doneInPeriod(group, (open() - 1) / 10),
            g.most == -1 ? -2 : room(group), g.saved, cells(group), there, depth(group),
            g.frozen ? 1 : 0};
        return what < 0 || what >= all.length ? -1 : all[what];
    }

    int about(int task, int what) {
        if (!isTask(task)) {
            return -1;
        }
        T t = w.tasks.get(task);
        int[] all = {t.under, t.work, used(1L << task), t.kept, t.loose, t.aside, t.gone ? 1 : 0,
            t.touch, wants(task) ? 1 : 0};
        return what < 0 || what >= all.length ? -1 : all[what];
    }

    long vtime(int which) {
        if ((which != 0 && isGroup(which)) || (which >= 100 && isTask(which - 100))) {
            return vtimeOf(which);
        }
        return -1;
    }

    int pressed(int group, boolean full, int n) {
        if (!isGroup(group) || n < 1 || n > 30) {
            return -1;
        }
        int sum = 0;
        for (int i = Math.max(0, w.ticks.size() - n); i < w.ticks.size(); i++) {
            Closed tick = w.ticks.get(i);
            long in = group < tick.members.length ? tick.members[group] : 0;
            boolean some = (in & tick.wanted & ~tick.did) != 0;
            sum += some && !(full && (in & tick.did) != 0) ? 1 : 0;
        }
        return sum;
    }

    int gone(int i, int what) {
        if (i < 0 || i >= w.gone.size() || what < 0 || what > 3) {
            return -1;
        }
        return w.gone.get(i)[what];
    }

    int done(int what) {
        return what < 0 || what > 2 ? -1 : did[what];
    }

    long even(int group) {
        if (!isGroup(group)) {
            return -1;
        }
        long greatest = -2;
        for (int a : children(group)) {
            for (int b : children(group)) {
                if (a != b && someoneWants(a) && someoneWants(b)) {
                    greatest = Math.max(greatest, Math.abs(vtimeOf(a) - vtimeOf(b)));
                }
            }
        }
        return greatest;
    }

    private boolean someoneWants(int child) {
        return child >= 100 ? wants(child - 100) : (members(child) & wanting()) != 0;
    }

    int plan(int task, int n) {
        if (!isTask(task) || n < 1 || n > 200) {
            return -1;
        }
        World now = w;
        w = now.like();
        run(n);
        int answer = used(1L << task);
        w = now;
        return answer;
    }

    int image() {
        image = w.like();
        return open();
    }

    int restore() {
        if (image == null) {
            return -2;
        }
        w = image.like();
        return open();
    }

    int count(int what) {
        int[] all = {open(), p, m, s, w.groups.size(), w.tasks.size(), m - cells(0), asideInAll(),
            w.gone.size()};
        return what < 0 || what >= all.length ? -1 : all[what];
    }

    int keep(int d, int what, int k) {
        if (d < 0 || d > 7 || what < 0 || what > 4 || (what == 1 && !isGroup(k))
                || (what == 2 && !isTask(k))) {
            return -1;
        }
        if (what == 0) {
            shelves[d] = null;
        } else if (what == 1) {
            G g = w.groups.get(k);
            long plain = k + 10 * depth(k) + g.weight;
            shelves[d] = new long[] {1, plain, g.kind, k};
            shelves[d][1] += g.kind == 1 ? g.saved : g.kind == 2 ? plain : 0;
        } else if (what == 2) {
            shelves[d] = new long[] {2, 5000 + w.tasks.get(k).kept};
        } else if (what == 3) {
            int n = Math.min(20, w.tasks.size());
            shelves[d] = new long[1 + 3 * n];
            shelves[d][0] = 3;
            for (int t = 0; t < n; t++) {
                shelves[d][1 + 3 * t] = w.tasks.get(t).kept;
                shelves[d][2 + 3 * t] = w.tasks.get(t).loose;
                shelves[d][3 + 3 * t] = w.tasks.get(t).aside;
            }
        } else {
            shelves[d] = new long[1 + w.tasks.size()];
            shelves[d][0] = 4;
            for (int t = 0; t < w.tasks.size(); t++) {
                shelves[d][1 + t] = w.tasks.get(t).gone ? 1 : 0;
            }
        }
        return 0;
    }

    int make(int d, int what, int n) {
        if (d < 0 || d > 7 || what < 3 || what > 4 || n > 60) {
            return -1;
        }
        if (n < 0) {
            return -14;
        }
        shelves[d] = new long[1 + n];
        shelves[d][0] = what;
        return 0;
    }

    long element(int d, int i) {
        if (d < 0 || d > 7) {
            throw new IllegalArgumentException();
        }
        if (shelves[d] == null || shelves[d][0] < 3 || i < 0 || i >= shelves[d].length - 1) {
            throw new IllegalStateException();
        }
        return shelves[d][1 + i];
    }

    int copy(int d, int i, int e, int j, int n) {
        if (d < 0 || d > 7 || e < 0 || e > 7) {
            return -1;
        }
        if (shelves[d] == null || shelves[e] == null) {
            return -11;
        }
        if (shelves[d][0] < 3 || shelves[d][0] != shelves[e][0]) {
            return -12;
        }
        if (n < 0 || i < 0 || j < 0 || (long) i + n > shelves[d].length - 1
                || (long) j + n > shelves[e].length - 1) {
            return -13;
        }
        long[] before = shelves[d].clone();
        for (int k = 0; k < n; k++) {
            shelves[e][1 + j + k] = before[1 + i + k];
        }
        return n;
    }

    int heft(int d) {
        if (d < 0 || d > 7) {
            return -1;
        }
        if (shelves[d] == null) {
            return -11;
        }
        return shelves[d][0] > 2 ? -12 : (int) shelves[d][1];
    }

    int toss(int d) {
        if (d < 0 || d > 7) {
            return -1;
        }
        if (shelves[d] == null) {
            return -11;
        }
        if (shelves[d][0] > 2) {
            return -12;
        }
        return shelves[d][0] == 2 || shelves[d][2] == 0 ? -15 : (int) shelves[d][3];
    }
}
