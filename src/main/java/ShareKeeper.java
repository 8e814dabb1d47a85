/**
 * Parts one machine among groups within groups: ticks of processors by weights and limits, cells by
 * limits and by who must go. The numbered promises are in the project's document.
 */
public final class ShareKeeper {
    private static final int GRANTED = 0;
    private static final int NO_SUCH = -1;
    private static final int NO_ROOM = -2;
    private static final int NONE = -2;
    private static final int TOO_MUCH = -3;
    private static final int ASKER_GONE = -3;
    private static final int NONE_LEFT = -4;
    private static final int NOTHING_HELD = -11;
    private static final int OTHER_KIND = -12;
    private static final int NO_PLACE = -13;
    private static final int BAD_SIZE = -14;
    private static final int NO_FAILURE = -15;

    private static final int PLAIN = 0;
    private static final int SAVING = 1;
    private static final int WHOLE = 2;

    private static final int MAX_PROCESSORS = 4;
    private static final int MAX_GROUPS = 20;
    private static final int MAX_TASKS = 32;
    private static final int DEEPEST = 5;
    private static final int TASK_OFFSET = 100;
    private static final int MAX_WEIGHT = 1000;
    private static final int FIRST_WEIGHT = 100;
    private static final int VTIME_OF_A_TICK = 1000000;
    private static final int PERIOD = 10;
    private static final int MAX_MOST = 40;
    private static final int MAX_SAVE = 100;
    private static final int MAX_LIMIT = 100;
    private static final int MAX_WORK_GIVEN = 1000;
    private static final int MAX_WORK = 100000;
    private static final int MAX_WORTH = 1000;
    private static final int MAX_TICKS_A_RUN = 200;
    private static final int MAX_CELLS_ASKED = 200;
    private static final int MAX_LOOKED_BACK = 30;
    private static final int MAX_PRESSINGS = 1000000;

    private static final int SHELVES = 8;
    private static final int HOLDS_NOTHING = 0;
    private static final int HOLDS_GROUP = 1;
    private static final int HOLDS_TASK = 2;
    private static final int HOLDS_SHORTS = 3;
    private static final int HOLDS_BOOLEANS = 4;
    private static final int TASKS_IN_A_ROW = 20;
    private static final int MAX_ROW = 60;
    private static final int TASK_HEFT = 5000;

    private final Machine live;
    private final Machine pictured;
    private final Machine planned;
    private final Pressing pressing;
    private final Held[] shelves;
    private boolean hasImage;

    public ShareKeeper(int processors, int cells, int aside) {
        int processorCount = 1 + Math.floorMod(processors, MAX_PROCESSORS);
        int cellCount = 20 + Math.floorMod(cells, 81);
        int asideRoom = Math.floorMod(aside, 41);
        live = new Machine(processorCount, cellCount, asideRoom);
        pictured = new Machine(processorCount, cellCount, asideRoom);
        planned = new Machine(processorCount, cellCount, asideRoom);
        pressing = new Pressing(live);
        shelves = new Held[SHELVES];
        hasImage = false;
    }

    public int group(int under, int kind) {
        Group above = live.groupAt(under);
        if (above == null || !isWithin(kind, PLAIN, WHOLE) || above.depth >= DEEPEST) {
            return NO_SUCH;
        }
        return live.addGroup(above, kind);
    }

    public int task(int under) {
        Group above = live.groupAt(under);
        return above == null ? NO_SUCH : live.addTask(above);
    }

    public int weight(int which, int weight) {
        Child child = live.childAt(which);
        if (child == null || !isWithin(weight, 1, MAX_WEIGHT)) {
            return NO_SUCH;
        }
        int before = child.weight;
        child.weight = weight;
        return before;
    }

    public int most(int group, int most, int save) {
        Group limited = live.groupAt(group);
        if (limited == null || !isWithin(most, -1, MAX_MOST) || !isWithin(save, 0, MAX_SAVE)) {
            return NO_SUCH;
        }
        limited.most = most;
        limited.toSave = save;
        return 0;
    }

    public int cellsOf(int group, int least, int high, int top) {
        Group limited = live.groupAt(group);
        if (limited == null || !isWithin(least, 0, MAX_LIMIT)
                || !isWithin(high, -1, MAX_LIMIT) || !isWithin(top, -1, MAX_LIMIT)) {
            return NO_SUCH;
        }
        if (limited == live.root && (least != 0 || top != -1)) {
            return NO_SUCH;
        }
        if (!live.leastFits(limited, least)) {
            return TOO_MUCH;
        }
        limited.least = least;
        limited.high = high;
        limited.top = top;
        return 0;
    }

    public int freeze(int group, boolean is) {
        Group chilled = live.groupAt(group);
        if (chilled == null || chilled == live.root) {
            return NO_SUCH;
        }
        boolean was = chilled.frozen;
        chilled.frozen = is;
        return asNumber(was);
    }

    public int move(int group, int under) {
        Group moved = live.groupAt(group);
        Group target = live.groupAt(under);
        if (moved == null || target == null || moved == live.root || target.isIn(moved)) {
            return NO_SUCH;
        }
        if (target.depth + 1 + live.heightOf(moved) > DEEPEST) {
            return NO_SUCH;
        }
        if (moved.above != target
                && live.leastsUnder(target) + moved.least > live.leastToShare(target)) {
            return TOO_MUCH;
        }
        live.hang(moved, target);
        return 0;
    }

    public int work(int task, int n) {
        Task given = live.presentTask(task);
        if (given == null || !isWithin(n, 1, MAX_WORK_GIVEN) || n > MAX_WORK - given.work) {
            return NO_SUCH;
        }
        given.work += n;
        return given.work;
    }

    public int worth(int task, int worth) {
        Task valued = live.presentTask(task);
        if (valued == null || !isWithin(worth, 0, MAX_WORTH)) {
            return NO_SUCH;
        }
        int before = valued.worth;
        valued.worth = worth;
        return before;
    }

    public int run(int n) {
        return isWithin(n, 1, MAX_TICKS_A_RUN) ? live.runTicks(n) : NO_SUCH;
    }

    public int who(int processor) {
        return isWithin(processor, 0, live.processors - 1) ? live.lastOn[processor] : NO_SUCH;
    }

    public int ask(int task, int n, boolean loose) {
        Task asker = live.presentTask(task);
        if (asker == null || !isWithin(n, 1, MAX_CELLS_ASKED)) {
            return NO_SUCH;
        }
        int answer = pressing.makeRoom(asker, n);
        if (answer != GRANTED) {
            return answer;
        }
        asker.touch = live.tick;
        if (loose) {
            asker.addLoose(n);
            return asker.loose;
        }
        asker.addKept(n);
        return asker.kept;
    }

    public int free(int task, int n, boolean loose) {
        Task giver = live.taskAt(task);
        if (giver == null || n < 1 || n > (loose ? giver.loose : giver.kept)) {
            return NO_SUCH;
        }
        if (loose) {
            giver.addLoose(-n);
            return giver.loose;
        }
        giver.addKept(-n);
        return giver.kept;
    }

    public int back(int task) {
        Task asker = live.presentTask(task);
        if (asker == null || asker.aside < 1) {
            return NO_SUCH;
        }
        // Pressing may put more of this task's own cells ASIDE; those aren't the ones that come back.
        int n = asker.aside;
        int answer = pressing.makeRoom(asker, n);
        if (answer != GRANTED) {
            return answer;
        }
        asker.touch = live.tick;
        live.addAside(asker, -n);
        asker.addKept(n);
        return asker.kept;
    }

    public int touch(int task) {
        Task touched = live.presentTask(task);
        if (touched == null) {
            return NO_SUCH;
        }
        int before = touched.touch;
        touched.touch = live.tick;
        return before;
    }

    public int look(int group, int what) {
        Group seen = live.groupAt(group);
        if (seen == null) {
            return NO_SUCH;
        }
        switch (what) {
            case 0: return seen.kind;
            case 1: return seen.above == null ? NONE : seen.above.number;
            case 2: return seen.used;
            case 3: return seen.inPeriod;
            case 4: return seen.most < 0 ? NONE : seen.roomLeft();
            case 5: return seen.saved;
            case 6: return seen.cells;
            case 7: return live.presentTasksIn(seen);
            case 8: return seen.depth;
            case 9: return asNumber(seen.frozen);
            default: return NO_SUCH;
        }
    }

    public int about(int task, int what) {
        Task seen = live.taskAt(task);
        if (seen == null) {
            return NO_SUCH;
        }
        switch (what) {
            case 0: return seen.above == null ? NO_SUCH : seen.above.number;
            case 1: return seen.work;
            case 2: return seen.used;
            case 3: return seen.kept;
            case 4: return seen.loose;
            case 5: return seen.aside;
            case 6: return asNumber(seen.gone);
            case 7: return seen.touch;
            case 8: return asNumber(seen.wouldWant());
            default: return NO_SUCH;
        }
    }

    public long vtime(int which) {
        Child child = live.childAt(which);
        return child == null ? NO_SUCH : child.vtime;
    }

    public int pressed(int group, boolean full, int n) {
        Group seen = live.groupAt(group);
        if (seen == null || !isWithin(n, 1, MAX_LOOKED_BACK)) {
            return NO_SUCH;
        }
        int ticks = full ? seen.someTicks & ~seen.servedTicks : seen.someTicks;
        return Integer.bitCount(ticks & ((1 << n) - 1));
    }

    public int gone(int i, int what) {
        if (!isWithin(i, 0, live.goneCount - 1) || !isWithin(what, 0, Machine.DEPARTURE_FACTS - 1)) {
            return NO_SUCH;
        }
        return live.departures[i][what];
    }

    public int done(int what) {
        switch (what) {
            case 0: return pressing.dropped;
            case 1: return pressing.putAside;
            case 2: return pressing.went;
            default: return NO_SUCH;
        }
    }

    public long even(int group) {
        Group seen = live.groupAt(group);
        return seen == null ? NO_SUCH : live.vtimeSpread(seen);
    }

    public int plan(int task, int n) {
        if (live.taskAt(task) == null || !isWithin(n, 1, MAX_TICKS_A_RUN)) {
            return NO_SUCH;
        }
        planned.becomeLike(live);
        planned.runTicks(n);
        Task then = planned.taskAt(task);
        return then == null ? NO_SUCH : then.used;
    }

    public int image() {
        pictured.becomeLike(live);
        hasImage = true;
        return live.tick;
    }

    public int restore() {
        if (!hasImage) {
            return NONE;
        }
        live.becomeLike(pictured);
        return live.tick;
    }

    public int count(int what) {
        switch (what) {
            case 0: return live.tick;
            case 1: return live.processors;
            case 2: return live.cellsInAll;
            case 3: return live.asideRoom;
            case 4: return live.groupCount;
            case 5: return live.taskCount;
            case 6: return live.cellsInAll - live.root.cells;
            case 7: return live.asideInAll;
            case 8: return live.goneCount;
            default: return NO_SUCH;
        }
    }

    public int keep(int d, int what, int k) {
        if (!isShelf(d) || !isWithin(what, HOLDS_NOTHING, HOLDS_BOOLEANS)) {
            return NO_SUCH;
        }
        Held held = what == HOLDS_NOTHING ? null : heldOf(what, k);
        if (held == null && what != HOLDS_NOTHING) {
            return NO_SUCH;
        }
        shelves[d] = held;
        return 0;
    }

    public int make(int d, int what, int n) {
        if (!isShelf(d) || !isWithin(what, HOLDS_SHORTS, HOLDS_BOOLEANS) || n > MAX_ROW) {
            return NO_SUCH;
        }
        if (n < 0) {
            return BAD_SIZE;
        }
        shelves[d] = what == HOLDS_SHORTS ? new ShortRow(n) : new BooleanRow(n);
        return 0;
    }

    public long element(int d, int i) throws IllegalArgumentException, IllegalStateException {
        if (!isShelf(d)) {
            throw new IllegalArgumentException("no such shelf");
        }
        Held held = shelves[d];
        if (held == null) {
            throw new IllegalStateException("nothing is held");
        }
        if (!held.isRow()) {
            throw new IllegalStateException("no row is held");
        }
        if (!isWithin(i, 0, held.size() - 1)) {
            throw new IllegalStateException("no such place");
        }
        return held.valueAt(i);
    }

    public int copy(int d, int i, int e, int j, int n) {
        if (!isShelf(d) || !isShelf(e)) {
            return NO_SUCH;
        }
        Held from = shelves[d];
        Held to = shelves[e];
        if (from == null || to == null) {
            return NOTHING_HELD;
        }
        if (!from.isRow() || from.holds != to.holds) {
            return OTHER_KIND;
        }
        if (n < 0 || !hasPlaces(from, i, n) || !hasPlaces(to, j, n)) {
            return NO_PLACE;
        }
        copyElements(from, i, to, j, n);
        return n;
    }

    public int heft(int d) {
        if (!isShelf(d)) {
            return NO_SUCH;
        }
        Held held = shelves[d];
        return held == null ? NOTHING_HELD : held.heftOrRefusal();
    }

    public int toss(int d) {
        if (!isShelf(d)) {
            return NO_SUCH;
        }
        Held held = shelves[d];
        if (held == null) {
            return NOTHING_HELD;
        }
        return held.isRow() ? OTHER_KIND : failureOf(held);
    }

    private Held heldOf(int what, int k) {
        switch (what) {
            case HOLDS_GROUP: return heldGroup(live.groupAt(k));
            case HOLDS_TASK: return heldTask(live.taskAt(k));
            case HOLDS_SHORTS: return rowOfCells();
            case HOLDS_BOOLEANS: return rowOfGone();
            default: return null;
        }
    }

    private static Held heldGroup(Group group) {
        return group == null ? null : new HeldGroup(group);
    }

    private static Held heldTask(Task task) {
        return task == null ? null : new HeldTask(task);
    }

    private Held rowOfCells() {
        int tasks = Math.min(TASKS_IN_A_ROW, live.taskCount);
        ShortRow row = new ShortRow(3 * tasks);
        for (int t = 0; t < tasks; t++) {
            Task task = live.tasks[t];
            row.setAt(3 * t, task.kept);
            row.setAt(3 * t + 1, task.loose);
            row.setAt(3 * t + 2, task.aside);
        }
        return row;
    }

    private Held rowOfGone() {
        BooleanRow row = new BooleanRow(live.taskCount);
        for (int t = 0; t < live.taskCount; t++) {
            row.setAt(t, asNumber(live.tasks[t].gone));
        }
        return row;
    }

    private static void copyElements(Held from, int i, Held to, int j, int n) {
        // Both may be one row: the end that would be written over is read first.
        boolean backwards = i < j;
        for (int step = 0; step < n; step++) {
            int k = backwards ? n - 1 - step : step;
            to.setAt(j + k, from.valueAt(i + k));
        }
    }

    private static int failureOf(Held held) {
        try {
            held.fail();
        } catch (IllegalStateException saving) {
            return held.number;
        } catch (UnsupportedOperationException whole) {
            return held.number;
        }
        return NO_FAILURE;
    }

    private static boolean hasPlaces(Held row, int from, int n) {
        // Subtracted, not added: from + n could wrap around.
        return from >= 0 && from <= row.size() && n <= row.size() - from;
    }

    private static boolean isShelf(int d) {
        return isWithin(d, 0, SHELVES - 1);
    }

    private static boolean isWithin(int n, int lowest, int highest) {
        return n >= lowest && n <= highest;
    }

    private static int asNumber(boolean is) {
        return is ? 1 : 0;
    }

    /** What stands under a GROUP and is chosen by its VTIME: a GROUP or a TASK. */
    private abstract static class Child {
        final int number;
        Group above;
        int weight;
        long vtime;
        int used;
        boolean wants;
        boolean wantedBefore;

        Child(int number) {
            this.number = number;
            weight = FIRST_WEIGHT;
        }

        boolean isIn(Group group) {
            for (Child at = this; at != null; at = at.above) {
                if (at == group) {
                    return true;
                }
            }
            return false;
        }

        void liftToFloor() {
            if (wants && !wantedBefore && above != null && vtime < above.floor) {
                vtime = above.floor;
            }
        }

        void payForTick() {
            used++;
            // THE ROOT stands under nothing: no one chooses it, so it has no VTIME to pay.
            if (above != null && weight > 0) {
                vtime += VTIME_OF_A_TICK / weight;
            }
        }

        void takeShareOf(Child other) {
            weight = other.weight;
            vtime = other.vtime;
            used = other.used;
            wants = other.wants;
            wantedBefore = other.wantedBefore;
        }
    }

    private static final class Group extends Child {
        int kind;
        int depth;
        boolean frozen;
        int most;
        int toSave;
        int saved;
        int inPeriod;
        int least;
        int high;
        int top;
        int cells;
        long floor;
        /** The latest ticks, the last one in bit 0: a TASK in it WANTED and did none. */
        int someTicks;
        /** Likewise: a TASK in it did a tick. */
        int servedTicks;
        /** While one is chosen: the CHILD that comes next, if one may. */
        Child next;

        Group(int number) {
            super(number);
            most = -1;
            high = -1;
            top = -1;
        }

        int roomLeft() {
            return Math.max(0, most + saved - inPeriod);
        }

        boolean hasRoom() {
            return most < 0 || roomLeft() > 0;
        }

        boolean isAboveHigh() {
            return high >= 0 && cells > high;
        }

        /** Of equals the one that is offered last stays, so CHILDREN are offered from the last one on. */
        void offer(Child child) {
            if (next == null || child.vtime <= next.vtime) {
                next = child;
            }
        }

        void beginPeriod() {
            boolean saves = kind == SAVING && most >= 0;
            saved = saves ? Math.min(toSave, roomLeft()) : 0;
            inPeriod = 0;
        }

        void becomeLike(Group other) {
            takeShareOf(other);
            kind = other.kind;
            depth = other.depth;
            frozen = other.frozen;
            most = other.most;
            toSave = other.toSave;
            saved = other.saved;
            inPeriod = other.inPeriod;
            least = other.least;
            high = other.high;
            top = other.top;
            cells = other.cells;
            floor = other.floor;
            someTicks = other.someTicks;
            servedTicks = other.servedTicks;
        }
    }

    private static final class Task extends Child {
        int work;
        int worth;
        int kept;
        int loose;
        int aside;
        int touch;
        boolean gone;
        /** Whether it did a tick in the latest tick. */
        boolean served;

        Task(int number) {
            super(number);
        }

        boolean wouldWant() {
            if (work < 1 || gone) {
                return false;
            }
            for (Group group = above; group != null; group = group.above) {
                if (group.frozen || (served && group.isAboveHigh())) {
                    return false;
                }
            }
            return true;
        }

        boolean hasCells() {
            return kept > 0 || loose > 0 || aside > 0;
        }

        void addKept(int n) {
            kept += n;
            addToGroups(n);
        }

        void addLoose(int n) {
            loose += n;
            addToGroups(n);
        }

        private void addToGroups(int n) {
            for (Group group = above; group != null; group = group.above) {
                group.cells += n;
            }
        }

        void becomeLike(Task other) {
            takeShareOf(other);
            work = other.work;
            worth = other.worth;
            kept = other.kept;
            loose = other.loose;
            aside = other.aside;
            touch = other.touch;
            gone = other.gone;
            served = other.served;
        }
    }

    /** All that an IMAGE keeps: GROUPS, TASKS, ticks, and who went. */
    private static final class Machine {
        private static final int DEPARTURE_FACTS = 4;

        final int processors;
        final int cellsInAll;
        final int asideRoom;
        final Group[] groups;
        final Task[] tasks;
        final Group root;
        final int[] lastOn;
        final int[][] departures;
        int groupCount;
        int taskCount;
        int goneCount;
        int asideInAll;
        int tick;

        Machine(int processors, int cellsInAll, int asideRoom) {
            this.processors = processors;
            this.cellsInAll = cellsInAll;
            this.asideRoom = asideRoom;
            groups = new Group[MAX_GROUPS];
            for (int g = 0; g < MAX_GROUPS; g++) {
                groups[g] = new Group(g);
            }
            tasks = new Task[MAX_TASKS];
            for (int t = 0; t < MAX_TASKS; t++) {
                tasks[t] = new Task(t);
            }
            root = groups[0];
            lastOn = new int[MAX_PROCESSORS];
            for (int p = 0; p < MAX_PROCESSORS; p++) {
                lastOn[p] = NONE;
            }
            departures = new int[MAX_TASKS][DEPARTURE_FACTS];
            groupCount = 1;
            tick = 1;
        }

        Group groupAt(int number) {
            return isWithin(number, 0, groupCount - 1) ? groups[number] : null;
        }

        Task taskAt(int number) {
            return isWithin(number, 0, taskCount - 1) ? tasks[number] : null;
        }

        Task presentTask(int number) {
            Task task = taskAt(number);
            return task == null || task.gone ? null : task;
        }

        /** None for THE ROOT: it stands under nothing, so it is no CHILD and has no share to tell. */
        Child childAt(int which) {
            if (which == root.number) {
                return null;
            }
            return which < TASK_OFFSET ? groupAt(which) : taskAt(which - TASK_OFFSET);
        }

        int addGroup(Group above, int kind) {
            if (groupCount >= MAX_GROUPS) {
                return NO_ROOM;
            }
            Group group = groups[groupCount];
            group.above = above;
            group.depth = above.depth + 1;
            group.kind = kind;
            groupCount++;
            return group.number;
        }

        int addTask(Group above) {
            if (taskCount >= MAX_TASKS) {
                return NO_ROOM;
            }
            Task task = tasks[taskCount];
            task.above = above;
            taskCount++;
            return task.number;
        }

        int presentTasksIn(Group group) {
            int present = 0;
            for (int t = 0; t < taskCount; t++) {
                if (!tasks[t].gone && tasks[t].isIn(group)) {
                    present++;
                }
            }
            return present;
        }

        int leastToShare(Group group) {
            return group == root ? cellsInAll : group.least;
        }

        int leastsUnder(Group group) {
            int sum = 0;
            for (int g = 0; g < groupCount; g++) {
                if (groups[g].above == group) {
                    sum += groups[g].least;
                }
            }
            return sum;
        }

        boolean leastFits(Group group, int least) {
            if (group.above == null) {
                return true;
            }
            int besides = leastsUnder(group.above) - group.least;
            return leastsUnder(group) <= least && besides + least <= leastToShare(group.above);
        }

        int heightOf(Group group) {
            int height = 0;
            for (int g = 0; g < groupCount; g++) {
                if (groups[g].isIn(group)) {
                    height = Math.max(height, groups[g].depth - group.depth);
                }
            }
            return height;
        }

        void hang(Group moved, Group target) {
            addBill(moved.above, moved, -1);
            addBill(target, moved, 1);
            int lower = target.depth + 1 - moved.depth;
            for (int g = 0; g < groupCount; g++) {
                if (groups[g].isIn(moved)) {
                    groups[g].depth += lower;
                }
            }
            moved.above = target;
            moved.vtime = target.floor;
        }

        private static void addBill(Group from, Group moved, int sign) {
            for (Group group = from; group != null; group = group.above) {
                group.used += sign * moved.used;
                group.inPeriod += sign * moved.inPeriod;
                group.cells += sign * moved.cells;
            }
        }

        int runTicks(int n) {
            int did = 0;
            for (int i = 0; i < n; i++) {
                markWanting();
                liftToFloors();
                did += serveAll();
                notePressure();
                openNext();
            }
            return did;
        }

        private void markWanting() {
            for (int g = 0; g < groupCount; g++) {
                groups[g].wants = false;
            }
            for (int t = 0; t < taskCount; t++) {
                Task task = tasks[t];
                task.wants = task.wouldWant();
                if (task.wants) {
                    markWantingAbove(task);
                }
            }
        }

        private static void markWantingAbove(Task task) {
            // A GROUP that is marked has all above it marked already.
            for (Group group = task.above; group != null && !group.wants; group = group.above) {
                group.wants = true;
            }
        }

        private void liftToFloors() {
            for (int g = 0; g < groupCount; g++) {
                groups[g].liftToFloor();
                groups[g].wantedBefore = groups[g].wants;
            }
            for (int t = 0; t < taskCount; t++) {
                tasks[t].liftToFloor();
                tasks[t].wantedBefore = tasks[t].wants;
            }
        }

        private int serveAll() {
            for (int t = 0; t < taskCount; t++) {
                tasks[t].served = false;
            }
            for (int p = 0; p < MAX_PROCESSORS; p++) {
                lastOn[p] = NONE;
            }
            for (int p = 0; p < processors && p < MAX_PROCESSORS; p++) {
                Task task = chosenTask();
                if (task == null) {
                    // Nothing changes by that, so the next PROCESSORS find none either.
                    return p;
                }
                lastOn[p] = task.number;
                serve(task);
            }
            return processors;
        }

        /** Lower GROUPS come first, so that each knows whether it may before it is offered itself. */
        private void offerChildren() {
            for (int g = 0; g < groupCount; g++) {
                groups[g].next = null;
            }
            for (int t = taskCount - 1; t >= 0; t--) {
                Task task = tasks[t];
                if (task.wants && !task.served && task.above != null) {
                    task.above.offer(task);
                }
            }
            for (int depth = DEEPEST; depth > 0; depth--) {
                for (int g = groupCount - 1; g > 0; g--) {
                    Group group = groups[g];
                    if (group.depth == depth && group.next != null && group.above != null
                            && group.hasRoom()) {
                        group.above.offer(group);
                    }
                }
            }
        }

        private Task chosenTask() {
            if (!root.wants || !root.hasRoom()) {
                return null;
            }
            offerChildren();
            Child at = root;
            for (int level = 0; level <= DEEPEST; level++) {
                if (at instanceof Group group && group.next != null) {
                    group.floor = group.next.vtime;
                    at = group.next;
                }
            }
            return at instanceof Task task ? task : null;
        }

        private static void serve(Task task) {
            task.work--;
            task.served = true;
            task.payForTick();
            for (Group group = task.above; group != null; group = group.above) {
                group.inPeriod++;
                group.payForTick();
            }
        }

        private void notePressure() {
            for (int g = 0; g < groupCount; g++) {
                groups[g].someTicks <<= 1;
                groups[g].servedTicks <<= 1;
            }
            for (int t = 0; t < taskCount; t++) {
                if (tasks[t].wants) {
                    noteInGroups(tasks[t]);
                }
            }
        }

        private static void noteInGroups(Task task) {
            for (Group group = task.above; group != null; group = group.above) {
                if (task.served) {
                    group.servedTicks |= 1;
                } else {
                    group.someTicks |= 1;
                }
            }
        }

        private void openNext() {
            tick++;
            if ((tick - 1) % PERIOD == 0) {
                for (int g = 0; g < groupCount; g++) {
                    groups[g].beginPeriod();
                }
            }
        }

        long vtimeSpread(Group group) {
            markWanting();
            long lowest = Long.MAX_VALUE;
            long highest = 0;
            int wanting = 0;
            for (int i = 0; i < groupCount + taskCount; i++) {
                Child child = i < groupCount ? groups[i] : tasks[i - groupCount];
                if (child.above == group && child.wants) {
                    lowest = Math.min(lowest, child.vtime);
                    highest = Math.max(highest, child.vtime);
                    wanting++;
                }
            }
            return wanting < 2 ? NONE : highest - lowest;
        }

        /** By how many CELLS a GROUP would be above its TOP (THE ROOT: the machine's) with n more. */
        int overBy(Group group, int n) {
            if (group == root) {
                return group.cells + n - cellsInAll;
            }
            return group.top < 0 ? 0 : group.cells + n - group.top;
        }

        void addAside(Task task, int n) {
            task.aside += n;
            asideInAll += n;
        }

        void letGo(Task task, Group pressed, Task asker) {
            task.addKept(-task.kept);
            task.addLoose(-task.loose);
            addAside(task, -task.aside);
            task.work = 0;
            task.gone = true;
            if (goneCount < MAX_TASKS) {
                int[] departure = departures[goneCount];
                departure[0] = task.number;
                departure[1] = pressed.number;
                departure[2] = asker.number;
                departure[3] = tick;
                goneCount++;
            }
        }

        /** The ones that aren't there yet are copied too: they are as new in every IMAGE. */
        void becomeLike(Machine other) {
            for (int g = 0; g < MAX_GROUPS; g++) {
                groups[g].becomeLike(other.groups[g]);
                groups[g].above = ownOf(other.groups[g].above);
            }
            for (int t = 0; t < MAX_TASKS; t++) {
                tasks[t].becomeLike(other.tasks[t]);
                tasks[t].above = ownOf(other.tasks[t].above);
            }
            for (int p = 0; p < MAX_PROCESSORS; p++) {
                lastOn[p] = other.lastOn[p];
            }
            for (int i = 0; i < other.goneCount && i < MAX_TASKS; i++) {
                for (int fact = 0; fact < DEPARTURE_FACTS; fact++) {
                    departures[i][fact] = other.departures[i][fact];
                }
            }
            groupCount = other.groupCount;
            taskCount = other.taskCount;
            goneCount = other.goneCount;
            asideInAll = other.asideInAll;
            tick = other.tick;
        }

        private Group ownOf(Group foreign) {
            return foreign == null ? null : groups[foreign.number];
        }
    }

    /** Makes room for CELLS that are asked for, and remembers what the latest ASK did for it. */
    private static final class Pressing {
        private final Machine machine;
        private int dropped;
        private int putAside;
        private int went;

        Pressing(Machine machine) {
            this.machine = machine;
        }

        int makeRoom(Task asker, int n) {
            dropped = 0;
            putAside = 0;
            went = 0;
            for (int i = 0; i < MAX_PRESSINGS; i++) {
                Group pressed = lowestShort(asker, n);
                if (pressed == null) {
                    return GRANTED;
                }
                int over = machine.overBy(pressed, n);
                if (dropSome(pressed, asker, over) || putSomeAside(pressed, asker, over)) {
                    continue;
                }
                if (!sendAway(pressed, asker)) {
                    return NONE_LEFT;
                }
                if (asker.gone) {
                    return ASKER_GONE;
                }
            }
            return NONE_LEFT;
        }

        private Group lowestShort(Task asker, int n) {
            for (Group group = asker.above; group != null; group = group.above) {
                if (machine.overBy(group, n) > 0) {
                    return group;
                }
            }
            return null;
        }

        private boolean dropSome(Group pressed, Task asker, int over) {
            Task loser = null;
            for (int t = 0; t < machine.taskCount; t++) {
                Task task = machine.tasks[t];
                if (task.loose > 0 && (loser == null || task.touch < loser.touch)
                        && mayLose(task, pressed, asker) > 0) {
                    loser = task;
                }
            }
            if (loser == null) {
                return false;
            }
            int n = Math.min(over, Math.min(loser.loose, mayLose(loser, pressed, asker)));
            loser.addLoose(-n);
            dropped += n;
            return true;
        }

        private boolean putSomeAside(Group pressed, Task asker, int over) {
            int room = machine.asideRoom - machine.asideInAll;
            if (room < 1) {
                return false;
            }
            Task loser = null;
            for (int t = 0; t < machine.taskCount; t++) {
                Task task = machine.tasks[t];
                if (task.kept > 0 && (loser == null || task.kept > loser.kept)
                        && mayLose(task, pressed, asker) > 0) {
                    loser = task;
                }
            }
            if (loser == null) {
                return false;
            }
            int may = Math.min(room, mayLose(loser, pressed, asker));
            int n = Math.min(over, Math.min(loser.kept, may));
            loser.addKept(-n);
            machine.addAside(loser, n);
            putAside += n;
            return true;
        }

        /** How many cells of a TASK the PRESSED one may take; 0 of TASKS that aren't in it. */
        private static int mayLose(Task task, Group pressed, Task asker) {
            if (!task.isIn(pressed)) {
                return 0;
            }
            int may = Integer.MAX_VALUE;
            for (Group group = task.above; group != null && group != pressed; group = group.above) {
                if (!asker.isIn(group)) {
                    may = Math.min(may, Math.max(0, group.cells - group.least));
                }
            }
            return may;
        }

        private boolean sendAway(Group pressed, Task asker) {
            Task first = firstToGo(pressed);
            if (first == null) {
                return false;
            }
            Group together = highestWhole(first, pressed);
            for (int t = 0; t < machine.taskCount; t++) {
                Task task = machine.tasks[t];
                boolean goes = task == first || (together != null && task.isIn(together));
                if (goes && !task.gone) {
                    machine.letGo(task, pressed, asker);
                    went++;
                }
            }
            return true;
        }

        private Task firstToGo(Group pressed) {
            Task first = null;
            for (int t = 0; t < machine.taskCount; t++) {
                Task task = machine.tasks[t];
                if (task.hasCells() && task.isIn(pressed)
                        && (first == null || goesBefore(task, first))) {
                    first = task;
                }
            }
            return first;
        }

        private static boolean goesBefore(Task task, Task other) {
            if (task.worth != other.worth) {
                return task.worth < other.worth;
            }
            return task.kept + task.loose > other.kept + other.loose;
        }

        private static Group highestWhole(Task task, Group pressed) {
            Group highest = null;
            for (Group group = task.above; group != null; group = group.above) {
                if (group.kind == WHOLE) {
                    highest = group;
                }
                if (group == pressed) {
                    return highest;
                }
            }
            return highest;
        }
    }

    /** What a SHELF holds: as it was when it came there. */
    private abstract static class Held {
        final int holds;
        final int number;

        Held(int holds, int number) {
            this.holds = holds;
            this.number = number;
        }

        boolean isRow() {
            return holds == HOLDS_SHORTS || holds == HOLDS_BOOLEANS;
        }

        int heftOrRefusal() {
            return OTHER_KIND;
        }

        void fail() {
        }

        int size() {
            return 0;
        }

        long valueAt(int i) {
            return 0;
        }

        void setAt(int i, long value) {
        }
    }

    private static final class HeldGroup extends Held {
        private final int kind;
        private final int depth;
        private final int weight;
        private final int saved;

        HeldGroup(Group group) {
            super(HOLDS_GROUP, group.number);
            kind = group.kind;
            depth = group.depth;
            weight = group.weight;
            saved = group.saved;
        }

        @Override
        int heftOrRefusal() {
            int plain = number + 10 * depth + weight;
            switch (kind) {
                case SAVING: return plain + saved;
                case WHOLE: return 2 * plain;
                default: return plain;
            }
        }

        @Override
        void fail() {
            if (kind == SAVING) {
                throw new IllegalStateException("a saving group");
            }
            if (kind == WHOLE) {
                throw new UnsupportedOperationException("a whole group");
            }
        }
    }

    private static final class HeldTask extends Held {
        private final int kept;

        HeldTask(Task task) {
            super(HOLDS_TASK, task.number);
            kept = task.kept;
        }

        @Override
        int heftOrRefusal() {
            return TASK_HEFT + kept;
        }
    }

    private static final class ShortRow extends Held {
        private final short[] values;

        ShortRow(int n) {
            super(HOLDS_SHORTS, 0);
            values = new short[Math.max(0, n)];
        }

        @Override
        int size() {
            return values.length;
        }

        @Override
        long valueAt(int i) {
            return isWithin(i, 0, values.length - 1) ? values[i] : 0;
        }

        @Override
        void setAt(int i, long value) {
            if (isWithin(i, 0, values.length - 1)) {
                values[i] = (short) value;
            }
        }
    }

    private static final class BooleanRow extends Held {
        private final boolean[] values;

        BooleanRow(int n) {
            super(HOLDS_BOOLEANS, 0);
            values = new boolean[Math.max(0, n)];
        }

        @Override
        int size() {
            return values.length;
        }

        @Override
        long valueAt(int i) {
            return asNumber(isWithin(i, 0, values.length - 1) && values[i]);
        }

        @Override
        void setAt(int i, long value) {
            if (isWithin(i, 0, values.length - 1)) {
                values[i] = value != 0;
            }
        }
    }
}
