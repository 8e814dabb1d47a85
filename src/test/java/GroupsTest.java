/** Promises 1 to 8 and 17: a new object, groups, tasks, and what is set of them. */
public final class GroupsTest {
    private static final Checks CHECKS = new Checks("GroupsTest");

    private static void due(String call, long got, long want) {
        CHECKS.due(call, got, want);
    }

    public static void main(String[] args) {
        promise1NewObject();
        promise2Group();
        promise2Depth();
        promise3Task();
        promise4Weight();
        promise5Most();
        promise6CellsOf();
        promise7Freeze();
        promise8MoveRefusals();
        promise8MoveBills();
        promise8MovePeriodAndCells();
        promise8MoveSamePlace();
        promise8MoveLeasts();
        promise8MoveLeavesSaved();
        promise8MoveLeavesWhatIsInIt();
        promise8MoveOfFrozenOnes();
        promise17Look();
        CHECKS.end();
    }

    private static void promise1NewObject() {
        int[][] made = {
            {0, 0, 0, 1, 20, 0}, {3, 80, 40, 4, 100, 40}, {4, 81, 41, 1, 20, 0},
            {-1, -1, -1, 4, 100, 40}, {-5, -82, -42, 4, 100, 40},
            {Integer.MIN_VALUE, Integer.MIN_VALUE, Integer.MIN_VALUE, 1,
                20 + Math.floorMod(Integer.MIN_VALUE, 81), Math.floorMod(Integer.MIN_VALUE, 41)},
            {Integer.MAX_VALUE, Integer.MAX_VALUE, Integer.MAX_VALUE, 4,
                20 + Integer.MAX_VALUE % 81, Integer.MAX_VALUE % 41}};
        for (int[] m : made) {
            ShareKeeper x = new ShareKeeper(m[0], m[1], m[2]);
            due("processors of " + m[0], x.count(1), m[3]);
            due("cells of " + m[1], x.count(2), m[4]);
            due("aside of " + m[2], x.count(3), m[5]);
            due("tick", x.count(0), 1);
            due("groups", x.count(4), 1);
            due("tasks", x.count(5), 0);
            due("free", x.count(6), m[4]);
            due("aside", x.count(7), 0);
            due("gone", x.count(8), 0);
            due("root's kind", x.look(0, 0), 0);
            due("above the root", x.look(0, 1), -2);
            due("who", x.who(0), -2);
            due("who beyond", x.who(m[3]), -1);
        }
    }

    private static void promise2Group() {
        ShareKeeper x = new ShareKeeper(0, 0, 0);
        due("group(-1, 0)", x.group(-1, 0), -1);
        due("group(1, 0)", x.group(1, 0), -1);
        due("group(0, -1)", x.group(0, -1), -1);
        due("group(0, 3)", x.group(0, 3), -1);
        for (int g = 1; g < 20; g++) {
            due("group " + g, x.group(0, g % 3), g);
            due("its kind", x.look(g, 0), g % 3);
            due("above it", x.look(g, 1), 0);
        }
        due("groups", x.count(4), 20);
        due("group 20", x.group(0, 0), -2);
        due("group(20, 0) of none", x.group(20, 0), -1);
        due("group(0, 3) with no room", x.group(0, 3), -1);
        due("groups still", x.count(4), 20);
    }

    private static void promise2Depth() {
        ShareKeeper x = new ShareKeeper(0, 0, 0);
        for (int g = 1; g <= 5; g++) {
            due("group below " + (g - 1), x.group(g - 1, 0), g);
            due("how far below", x.look(g, 8), g);
        }
        due("six below", x.group(5, 0), -1);
        due("a task six below", x.task(5), 0);
    }

    private static void promise3Task() {
        ShareKeeper x = new ShareKeeper(0, 0, 0);
        due("task(-1)", x.task(-1), -1);
        due("task(1)", x.task(1), -1);
        x.group(0, 0);
        for (int t = 0; t < 32; t++) {
            due("task " + t, x.task(t % 2), t);
            due("its group", x.about(t, 0), t % 2);
        }
        due("task 32", x.task(0), -2);
        due("task(2) with no room", x.task(2), -1);
        due("tasks", x.count(5), 32);
    }

    private static void promise4Weight() {
        ShareKeeper x = new ShareKeeper(0, 0, 0);
        due("of the root", x.weight(0, 5), -1);
        due("of no group", x.weight(1, 5), -1);
        due("of no task", x.weight(100, 5), -1);
        x.group(0, 0);
        x.task(1);
        due("0", x.weight(1, 0), -1);
        due("1001", x.weight(1, 1001), -1);
        due("group's", x.weight(1, 1000), 100);
        due("group's again", x.weight(1, 1), 1000);
        due("task's", x.weight(100, 7), 100);
        due("task's again", x.weight(100, 8), 7);
        due("group's stays", x.weight(1, 3), 1);
        due("101", x.weight(101, 5), -1);
        due("99", x.weight(99, 5), -1);
        due("20", x.weight(20, 5), -1);
        due("-1", x.weight(-1, 5), -1);
        due("lowest", x.weight(Integer.MIN_VALUE, 5), -1);
        due("highest", x.weight(Integer.MAX_VALUE, 5), -1);
    }

    private static void promise5Most() {
        ShareKeeper x = new ShareKeeper(0, 0, 0);
        due("no MOST", x.look(0, 4), -2);
        due("root's", x.most(0, 40, 100), 0);
        due("room", x.look(0, 4), 40);
        due("-2", x.most(0, -2, 0), -1);
        due("41", x.most(0, 41, 0), -1);
        due("save -1", x.most(0, 3, -1), -1);
        due("save 101", x.most(0, 3, 101), -1);
        due("no group", x.most(1, 3, 3), -1);
        due("room stays", x.look(0, 4), 40);
        due("0", x.most(0, 0, 0), 0);
        due("no room", x.look(0, 4), 0);
        x.task(0);
        x.work(0, 5);
        due("root without room", x.run(3), 0);
        due("none", x.most(0, -1, 0), 0);
        due("no MOST again", x.look(0, 4), -2);
        due("root with room", x.run(3), 3);
    }

    private static void promise6CellsOf() {
        ShareKeeper x = new ShareKeeper(0, 10, 0);
        x.group(0, 0);
        x.group(1, 0);
        x.group(1, 0);
        x.group(0, 0);
        due("no group", x.cellsOf(5, 0, -1, -1), -1);
        due("least -1", x.cellsOf(1, -1, -1, -1), -1);
        due("least 101", x.cellsOf(1, 101, -1, -1), -1);
        due("high -2", x.cellsOf(1, 0, -2, -1), -1);
        due("high 101", x.cellsOf(1, 0, 101, -1), -1);
        due("top -2", x.cellsOf(1, 0, -1, -2), -1);
        due("top 101", x.cellsOf(1, 0, -1, 101), -1);
        due("root's least", x.cellsOf(0, 1, -1, -1), -1);
        due("root's top", x.cellsOf(0, 0, -1, 0), -1);
        due("root's high", x.cellsOf(0, 0, 100, -1), 0);
        due("more than M", x.cellsOf(1, 31, -1, -1), -3);
        due("M", x.cellsOf(1, 30, 100, 100), 0);
        due("with another more than M", x.cellsOf(4, 1, -1, -1), -3);
        due("below it all", x.cellsOf(2, 30, -1, -1), 0);
        due("below it more", x.cellsOf(3, 1, -1, -1), -3);
        due("again as it is", x.cellsOf(2, 30, -1, -1), 0);
        due("less than those below", x.cellsOf(1, 29, -1, -1), -3);
        due("less below", x.cellsOf(2, 10, -1, -1), 0);
        due("other below", x.cellsOf(3, 11, -1, -1), 0);
        due("less than both below", x.cellsOf(1, 20, -1, -1), -3);
        due("as both below", x.cellsOf(1, 21, -1, -1), 0);
        due("rest of M", x.cellsOf(4, 9, -1, -1), 0);
        due("-1 ahead of -3", x.cellsOf(4, 50, -1, 101), -1);
        refusedCellsOfChangesNothing();
    }

    private static void refusedCellsOfChangesNothing() {
        ShareKeeper x = new ShareKeeper(0, 10, 0);
        x.group(0, 0);
        x.task(1);
        x.cellsOf(1, 5, -1, 8);
        due("too much", x.cellsOf(1, 40, 0, 2), -3);
        due("top stays", x.ask(0, 8, false), 8);
        x.work(0, 3);
        due("high stays", x.run(2), 2);
    }

    private static void promise7Freeze() {
        ShareKeeper x = new ShareKeeper(0, 0, 0);
        x.group(0, 0);
        x.group(1, 0);
        x.task(2);
        x.work(0, 9);
        due("root", x.freeze(0, true), -1);
        due("root, not", x.freeze(0, false), -1);
        due("no group", x.freeze(3, true), -1);
        due("-1", x.freeze(-1, true), -1);
        due("was not", x.freeze(1, true), 0);
        due("was", x.freeze(1, true), 1);
        due("look", x.look(1, 9), 1);
        due("below isn't itself", x.look(2, 9), 0);
        due("wants", x.about(0, 8), 0);
        due("run", x.run(2), 0);
        due("no pressure", x.pressed(1, false, 30), 0);
        due("was still", x.freeze(1, false), 1);
        due("was not any more", x.freeze(1, false), 0);
        due("wants again", x.about(0, 8), 1);
        due("runs again", x.run(2), 2);
    }

    private static void promise8MoveRefusals() {
        ShareKeeper x = new ShareKeeper(0, 0, 0);
        x.group(0, 0);
        x.group(1, 0);
        x.group(2, 0);
        x.group(0, 0);
        x.group(4, 0);
        x.group(5, 0);
        due("the root", x.move(0, 1), -1);
        due("no group", x.move(7, 1), -1);
        due("under none", x.move(1, 7), -1);
        due("under itself", x.move(1, 1), -1);
        due("under what is in it", x.move(1, 3), -1);
        due("six below", x.move(1, 6), -1);
        due("five below", x.move(1, 5), 0);
        due("lowest is", x.look(3, 8), 5);
        due("middle is", x.look(2, 8), 4);
        due("it is", x.look(1, 8), 3);
        due("above it", x.look(1, 1), 5);
        due("none below five", x.group(3, 0), -1);
        due("up again", x.move(2, 0), 0);
        due("lowest is now", x.look(3, 8), 2);
        due("room below again", x.group(3, 0), 7);
    }

    private static void promise8MoveBills() {
        ShareKeeper x = new ShareKeeper(1, 0, 0);
        x.group(0, 0);
        x.group(1, 0);
        x.group(2, 0);
        x.group(0, 0);
        x.task(3);
        x.task(4);
        x.work(0, 50);
        x.work(1, 50);
        due("run", x.run(12), 24);
        due("vtime of 3", x.vtime(3), 120000);
        due("move", x.move(3, 4), 0);
        due("used of 2", x.look(2, 2), 0);
        due("used of 1", x.look(1, 2), 0);
        due("used of 4", x.look(4, 2), 24);
        due("used of 3", x.look(3, 2), 12);
        due("used of root", x.look(0, 2), 24);
        due("in period of 1", x.look(1, 3), 0);
        due("in period of 4", x.look(4, 3), 4);
        due("in period of 3", x.look(3, 3), 2);
        due("in period of root", x.look(0, 3), 4);
        due("vtime is the floor there", x.vtime(3), 110000);
        due("vtime of 4 stays", x.vtime(4), 120000);
    }

    private static void promise8MovePeriodAndCells() {
        ShareKeeper x = new ShareKeeper(0, 30, 0);
        x.group(0, 0);
        x.group(1, 0);
        x.group(0, 0);
        x.task(2);
        x.work(0, 50);
        x.ask(0, 4, false);
        x.ask(0, 3, true);
        x.run(3);
        x.most(3, 5, 0);
        due("room of 3", x.look(3, 4), 5);
        due("cells of 1", x.look(1, 6), 7);
        due("move", x.move(2, 3), 0);
        due("room of 3 with what came", x.look(3, 4), 2);
        due("cells of 1 left", x.look(1, 6), 0);
        due("cells of 3 came", x.look(3, 6), 7);
        due("cells of the root", x.look(0, 6), 7);
        due("tasks in 1", x.look(1, 7), 0);
        due("tasks in 3", x.look(3, 7), 1);
        due("what is left of the period", x.run(7), 2);
        due("in the next period", x.run(10), 5);
    }

    private static void promise8MoveSamePlace() {
        ShareKeeper x = new ShareKeeper(0, 0, 0);
        x.group(0, 0);
        x.task(1);
        x.work(0, 5);
        x.cellsOf(1, 20, -1, -1);
        x.run(3);
        due("vtime", x.vtime(1), 30000);
        due("under the one it stands under", x.move(1, 0), 0);
        due("vtime is the floor", x.vtime(1), 20000);
        due("used", x.look(0, 2), 3);
        due("its own", x.look(1, 2), 3);
        due("depth", x.look(1, 8), 1);
    }

    private static void promise8MoveLeasts() {
        ShareKeeper x = new ShareKeeper(0, 0, 0);
        x.group(0, 0);
        x.group(0, 0);
        x.group(1, 0);
        x.group(2, 0);
        x.cellsOf(1, 10, -1, -1);
        x.cellsOf(2, 10, -1, -1);
        x.cellsOf(3, 6, -1, -1);
        x.cellsOf(4, 5, -1, -1);
        due("both are more", x.move(3, 2), -3);
        due("stays", x.look(3, 1), 1);
        due("to the root", x.move(3, 0), -3);
        due("less", x.cellsOf(4, 4, -1, -1), 0);
        due("both are as much", x.move(3, 2), 0);
        due("-1 ahead of -3", x.move(2, 3), -1);
    }

    // What was done moves, what is SAVED doesn't: no sentence says so.
    private static void promise8MoveLeavesSaved() {
        ShareKeeper x = new ShareKeeper(0, 0, 0);
        x.group(0, 1);
        x.group(1, 1);
        x.group(0, 1);
        x.most(1, 5, 20);
        x.most(2, 3, 20);
        x.most(3, 4, 20);
        x.run(10);
        due("move", x.move(2, 3), 0);
        due("SAVED of the one it left", x.look(1, 5), 5);
        due("its own", x.look(2, 5), 3);
        due("of the one it came to", x.look(3, 5), 4);
        due("ROOM of the one it left", x.look(1, 4), 10);
        due("its own room", x.look(2, 4), 6);
        due("ROOM of the one it came to", x.look(3, 4), 8);
        x.run(10);
        due("left, a PERIOD later", x.look(1, 5), 10);
        due("its own later", x.look(2, 5), 6);
        due("came to, later", x.look(3, 5), 8);
    }

    // "its VTIME becomes FLOOR there": its own alone, and its own FLOOR stays.
    private static void promise8MoveLeavesWhatIsInIt() {
        ShareKeeper x = new ShareKeeper(0, 0, 0);
        x.group(0, 0);
        x.group(0, 0);
        x.task(1);
        x.task(1);
        x.group(1, 0);
        x.task(3);
        x.work(0, 3);
        x.run(3);
        x.work(2, 1);
        x.run(1);
        due("group in it before", x.vtime(3), 30000);
        due("move", x.move(1, 2), 0);
        due("its own", x.vtime(1), 0);
        due("task in it", x.vtime(100), 30000);
        due("the other one", x.vtime(101), 0);
        due("group in it", x.vtime(3), 30000);
        due("task of that", x.vtime(102), 10000);
        x.work(1, 1);
        x.run(1);
        due("lifted to the FLOOR in it, then a tick", x.vtime(101), 30000);
        due("the moved one", x.vtime(1), 10000);
        due("the one above, lifted to the root's FLOOR", x.vtime(2), 40000);
    }

    private static void promise8MoveOfFrozenOnes() {
        ShareKeeper x = new ShareKeeper(0, 0, 0);
        x.group(0, 0);
        x.group(1, 0);
        x.group(0, 0);
        x.task(2);
        x.work(0, 9);
        x.freeze(2, true);
        due("move", x.move(2, 3), 0);
        due("still FROZEN", x.look(2, 9), 1);
        due("none is done", x.run(2), 0);
        x.freeze(2, false);
        x.freeze(3, true);
        due("out of a FROZEN one", x.move(2, 1), 0);
        due("not FROZEN itself", x.look(2, 9), 0);
        due("now they are done", x.run(2), 2);
        due("into a FROZEN one", x.move(2, 3), 0);
        due("none any more", x.run(2), 0);
    }

    private static void promise17Look() {
        ShareKeeper x = new ShareKeeper(0, 80, 40);
        x.group(0, 1);
        x.group(1, 2);
        x.task(2);
        x.task(1);
        x.most(1, 8, 5);
        x.work(0, 3);
        x.work(1, 3);
        x.ask(0, 4, false);
        x.ask(1, 5, true);
        x.run(12);
        int[] of1 = {1, 0, 6, 0, 10, 2, 9, 2, 1, 0};
        int[] of2 = {2, 1, 3, 0, -2, 0, 4, 1, 2, 0};
        int[] of0 = {0, -2, 6, 0, -2, 0, 9, 2, 0, 0};
        for (int what = 0; what < 10; what++) {
            due("look(0, " + what + ")", x.look(0, what), of0[what]);
            due("look(1, " + what + ")", x.look(1, what), of1[what]);
            due("look(2, " + what + ")", x.look(2, what), of2[what]);
        }
        due("look(1, -1)", x.look(1, -1), -1);
        due("look(1, 10)", x.look(1, 10), -1);
        due("look(3, 0)", x.look(3, 0), -1);
        due("look(-1, 0)", x.look(-1, 0), -1);
    }
}
