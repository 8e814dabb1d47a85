/** Promises 9 to 12, 19, 20, 23 and 24: work, choosing, periods, pressure. */
public final class TicksTest {
    private static final Checks CHECKS = new Checks("TicksTest");

    private static void due(String call, long got, long want) {
        CHECKS.due(call, got, want);
    }

    public static void main(String[] args) {
        promise9Work();
        promise10Worth();
        promise11Run();
        promise11Ties();
        promise11OneTickEach();
        promise11Floor();
        promise11FloorOfGroups();
        promise11WantedWithoutTick();
        promise11WaitingTasksAreNotLifted();
        promise11WaitingTasksWithoutRoom();
        promise11GroupsThatRestedAreLifted();
        promise11FloorFalls();
        promise11FloorFallsToNothing();
        promise11DeepTrees();
        promise11FullHouse();
        promise11High();
        promise11Saved();
        promise11SavedOnlyOfSaving();
        promise12Who();
        promise12WhoOfTheLastTask();
        promise19Vtime();
        promise19VtimeOfNewOnes();
        promise20Pressed();
        promise20PressedMoves();
        promise23Even();
        promise23EvenWithoutRoom();
        promise24Plan();
        promise24PlanOfSaving();
        CHECKS.end();
    }

    private static void promise9Work() {
        ShareKeeper x = new ShareKeeper(0, 0, 0);
        due("no task", x.work(0, 1), -1);
        x.task(0);
        due("-1", x.work(-1, 1), -1);
        due("0", x.work(0, 0), -1);
        due("1001", x.work(0, 1001), -1);
        due("1", x.work(0, 1), 1);
        due("1000", x.work(0, 1000), 1001);
        for (int i = 2; i < 100; i++) {
            x.work(0, 1000);
        }
        due("99001", x.about(0, 1), 99001);
        due("one more than 100000", x.work(0, 1000), -1);
        due("a refused call gives none", x.about(0, 1), 99001);
        due("999 more", x.work(0, 999), 100000);
        due("not one beyond 100000", x.work(0, 1), -1);
        due("nor many", x.work(0, 1000), -1);
        due("it has what it had", x.about(0, 1), 100000);
        x.run(5);
        due("some were done", x.about(0, 1), 99995);
        due("one too many for that", x.work(0, 6), -1);
        due("nothing is cut", x.about(0, 1), 99995);
        due("up to 100000", x.work(0, 5), 100000);
        x.task(0);
        due("another task has its own", x.work(1, 1), 1);
    }

    private static void promise10Worth() {
        ShareKeeper x = new ShareKeeper(0, 0, 0);
        due("no task", x.worth(0, 1), -1);
        x.task(0);
        due("-1", x.worth(0, -1), -1);
        due("1001", x.worth(0, 1001), -1);
        due("1000", x.worth(0, 1000), 0);
        due("0", x.worth(0, 0), 1000);
        due("again", x.worth(0, 4), 0);
    }

    private static void promise11Run() {
        ShareKeeper x = new ShareKeeper(0, 0, 0);
        due("0", x.run(0), -1);
        due("201", x.run(201), -1);
        due("-1", x.run(-1), -1);
        due("tick stays", x.count(0), 1);
        due("200 of none", x.run(200), 0);
        due("tick", x.count(0), 201);
        x.task(0);
        x.work(0, 3);
        due("1", x.run(1), 1);
        due("rest", x.run(5), 2);
        due("tick", x.count(0), 207);
        due("work", x.about(0, 1), 0);
        due("used", x.about(0, 2), 3);
    }

    private static void promise11Ties() {
        ShareKeeper x = new ShareKeeper(0, 0, 0);
        x.task(0);
        x.group(0, 0);
        x.group(0, 0);
        x.task(2);
        x.task(1);
        x.work(0, 5);
        x.work(1, 5);
        x.work(2, 5);
        due("run", x.run(1), 1);
        due("groups by numbers first", x.who(0), 2);
        x.run(1);
        due("then the next group", x.who(0), 1);
        x.run(1);
        due("then the task", x.who(0), 0);
        x.run(1);
        due("and anew", x.who(0), 2);
        ShareKeeper y = new ShareKeeper(0, 0, 0);
        y.task(0);
        y.task(0);
        y.work(0, 5);
        y.work(1, 5);
        y.run(1);
        due("tasks by numbers", y.who(0), 0);
    }

    private static void promise11OneTickEach() {
        ShareKeeper x = new ShareKeeper(3, 0, 0);
        x.task(0);
        x.task(0);
        x.work(0, 10);
        x.work(1, 10);
        due("no task does two in a tick", x.run(3), 6);
        due("first", x.who(0), 0);
        due("second", x.who(1), 1);
        due("third", x.who(2), -2);
        due("fourth", x.who(3), -2);
    }

    private static void promise11Floor() {
        ShareKeeper x = new ShareKeeper(0, 0, 0);
        x.task(0);
        x.task(0);
        x.work(0, 100);
        x.run(5);
        due("vtime", x.vtime(100), 50000);
        x.work(1, 10);
        due("not before the tick", x.vtime(101), 0);
        x.run(1);
        due("lifted to the floor, then a tick", x.vtime(101), 50000);
        due("who", x.who(0), 1);
        x.run(1);
        due("a tie goes to the first", x.who(0), 0);
        ShareKeeper y = new ShareKeeper(0, 0, 0);
        y.task(0);
        y.task(0);
        y.work(1, 1);
        y.run(1);
        y.weight(101, 1);
        y.work(1, 3);
        y.run(1);
        due("above the floor it stays", y.vtime(101), 1010000);
    }

    private static void promise11FloorOfGroups() {
        ShareKeeper x = new ShareKeeper(0, 0, 0);
        x.group(0, 0);
        x.group(0, 0);
        x.task(1);
        x.task(2);
        x.task(2);
        x.work(0, 100);
        x.run(9);
        x.work(1, 2);
        x.run(1);
        due("group 2 lifted", x.vtime(2), 90000);
        due("its task at its own floor", x.vtime(101), 10000);
        x.work(2, 5);
        x.run(2);
        due("the other's floor is in its group", x.about(2, 2), 1);
        due("vtime of the other", x.vtime(102), 10000);
    }

    private static void promise11WantedWithoutTick() {
        ShareKeeper x = new ShareKeeper(0, 0, 0);
        x.group(0, 0);
        x.task(1);
        x.task(0);
        x.most(1, 0, 0);
        x.work(0, 20);
        x.work(1, 20);
        x.run(5);
        due("only the free one", x.about(1, 2), 5);
        x.most(1, 40, 0);
        x.run(4);
        due("it WANTED all along: no lift", x.about(0, 2), 4);
        due("vtime", x.vtime(1), 40000);
    }

    private static void promise11WaitingTasksAreNotLifted() {
        ShareKeeper x = new ShareKeeper(1, 0, 0);
        x.task(0);
        x.task(0);
        x.weight(100, 1000);
        x.weight(101, 10);
        x.work(0, 20);
        x.work(1, 20);
        x.run(2);
        due("the floor is 100000", x.vtime(101), 200000);
        due("below it", x.vtime(100), 2000);
        x.run(1);
        due("it WANTED in the tick before: not lifted", x.vtime(100), 3000);
    }

    // "in which none WANTED ahead of CHOOSING in the tick before (.. whether they did a tick or not)"
    private static void promise11WaitingTasksWithoutRoom() {
        ShareKeeper x = new ShareKeeper(1, 0, 0);
        x.group(0, 0);
        x.task(1);
        x.task(1);
        x.weight(100, 1000);
        x.most(1, 4, 0);
        x.work(0, 20);
        x.work(1, 20);
        x.run(2);
        due("the floor is 10000", x.vtime(101), 20000);
        due("below it", x.vtime(100), 2000);
        x.run(8);
        due("it did none, but WANTED: not lifted", x.vtime(100), 2000);
        x.run(1);
        due("nor as a period begins", x.vtime(100), 3000);
        ShareKeeper y = new ShareKeeper(1, 0, 0);
        y.group(0, 0);
        y.task(1);
        y.task(1);
        y.weight(100, 1000);
        y.most(1, 4, 0);
        y.work(0, 2);
        y.work(1, 20);
        y.run(3);
        due("without work below the floor", y.vtime(100), 2000);
        y.work(0, 1);
        y.run(1);
        due("it didn't WANT: lifted, though it does none", y.vtime(100), 10000);
        due("it did none", y.about(0, 2), 2);
    }

    // "FLOOR of a GROUP is the VTIME that the CHILD which was chosen last had as it was chosen"
    private static void promise11FloorFalls() {
        ShareKeeper x = new ShareKeeper(0, 0, 0);
        x.group(0, 0);
        x.task(1);
        x.task(0);
        x.task(0);
        x.most(1, 1, 0);
        x.work(0, 50);
        x.work(1, 50);
        x.run(10);
        due("the floor is 80000", x.vtime(101), 90000);
        x.run(1);
        due("chosen at 10000", x.vtime(1), 20000);
        x.work(2, 5);
        x.run(1);
        due("lifted to 10000, then a tick", x.vtime(102), 20000);
        due("a GROUP that is moved there", x.move(1, 0), 0);
        due("has it too", x.vtime(1), 10000);
    }

    private static void promise11FloorFallsToNothing() {
        ShareKeeper x = new ShareKeeper(0, 0, 0);
        x.group(0, 0);
        x.task(1);
        x.task(0);
        x.task(0);
        x.most(1, 0, 0);
        x.work(0, 50);
        x.work(1, 50);
        x.run(3);
        due("the floor is 20000", x.vtime(101), 30000);
        x.most(1, 1, 0);
        x.run(1);
        due("chosen at 0", x.vtime(1), 10000);
        x.work(2, 5);
        x.run(1);
        due("it stays at 0, then a tick", x.vtime(102), 10000);
    }

    private static void promise11GroupsThatRestedAreLifted() {
        ShareKeeper x = new ShareKeeper(0, 0, 0);
        x.group(0, 0);
        x.task(1);
        x.task(0);
        x.work(0, 1);
        x.work(1, 50);
        x.run(11);
        due("one tick of the group", x.vtime(1), 10000);
        due("ten of the task", x.vtime(101), 100000);
        due("the group doesn't WANT", x.even(0), -2);
        x.work(0, 5);
        due("not lifted for even()", x.even(0), 90000);
        x.run(1);
        due("lifted to 90000, then a tick", x.vtime(1), 100000);
        x.freeze(1, true);
        x.run(10);
        due("the task alone", x.vtime(101), 200000);
        x.freeze(1, false);
        x.run(1);
        due("lifted again", x.vtime(1), 200000);
    }

    private static void promise11DeepTrees() {
        ShareKeeper x = new ShareKeeper(0, 0, 0);
        for (int g = 1; g <= 5; g++) {
            x.group(0, 0);
        }
        for (int g = 4; g >= 1; g--) {
            due("lower numbers stand lower", x.move(g, g + 1), 0);
        }
        due("five below", x.look(1, 8), 5);
        x.task(1);
        x.task(3);
        x.task(0);
        x.work(0, 9);
        x.work(1, 9);
        x.work(2, 9);
        String order = "";
        for (int i = 0; i < 8; i++) {
            x.run(1);
            order += x.who(0);
        }
        due("by turns: " + order, order.equals("02120212") ? 1 : 0, 1);
        x.most(2, 0, 0);
        x.run(2);
        due("1 of 2 without room", x.about(0, 2), 2);
        due("the others go on", x.about(1, 2) + x.about(2, 2), 8);
    }

    private static void promise11FullHouse() {
        ShareKeeper x = new ShareKeeper(3, 80, 40);
        for (int g = 1; g < 20; g++) {
            x.group((g - 1) / 4, 0);
        }
        for (int t = 0; t < 32; t++) {
            x.task(t % 20);
            x.work(t, 100);
            x.ask(t, 3, false);
        }
        due("run", x.run(20), 80);
        due("used", x.look(0, 2), 80);
        due("in all", x.look(0, 7), 32);
        due("even", x.even(19), -2);
        due("plan", x.plan(31, 200) >= 10 ? 1 : 0, 1);
        due("move", x.move(19, 1), 0);
        due("least", x.cellsOf(19, 0, 5, 50), 0);
        due("image", x.image(), 21);
        x.worth(31, 1);
        due("gone", x.ask(31, 200, true), -3);
        due("all went", x.count(8), 32);
        due("the last", x.gone(31, 0), 31);
        due("no more", x.gone(32, 0), -1);
        due("keep", x.keep(0, 4, 0), 0);
        due("the last flag", x.element(0, 31), 1);
        due("restore", x.restore(), 21);
        due("keep", x.keep(0, 3, 0), 0);
        due("the last short", x.element(0, 59), x.about(19, 5));
        due("none left", x.count(8), 0);
    }

    private static void promise11High() {
        ShareKeeper x = new ShareKeeper(0, 30, 0);
        x.group(0, 0);
        x.task(1);
        x.work(0, 20);
        x.ask(0, 5, true);
        x.cellsOf(1, 0, 5, -1);
        due("as many as HIGH", x.run(4), 4);
        x.cellsOf(1, 0, 4, -1);
        due("would not WANT now", x.about(0, 8), 0);
        due("each second tick", x.run(6), 3);
        due("no pressure of it", x.pressed(1, false, 30), 0);
        x.cellsOf(1, 0, 0, -1);
        due("each second tick of 0", x.run(6), 3);
        x.free(0, 5, true);
        due("no cells, no limit", x.run(4), 4);
    }

    private static void promise11Saved() {
        ShareKeeper x = new ShareKeeper(0, 0, 0);
        x.group(0, 1);
        x.task(1);
        x.most(1, 3, 5);
        due("nothing saved", x.look(1, 5), 0);
        x.run(9);
        due("not yet", x.look(1, 5), 0);
        x.run(1);
        due("as the period begins", x.look(1, 5), 3);
        due("room", x.look(1, 4), 6);
        x.run(10);
        due("no more than TO SAVE", x.look(1, 5), 5);
        x.work(0, 100);
        due("MOST and SAVED", x.run(10), 8);
        due("saved", x.look(1, 5), 0);
        due("MOST alone", x.run(10), 3);
        x.most(1, 3, 2);
        x.freeze(1, true);
        x.run(10);
        due("up to 2", x.look(1, 5), 2);
        x.most(1, 0, 2);
        x.run(10);
        due("MOST 0 saves what was saved", x.look(1, 5), 2);
        x.most(1, -1, 2);
        due("stays within the period", x.look(1, 5), 2);
        x.run(10);
        due("none without MOST", x.look(1, 5), 0);
    }

    private static void promise11SavedOnlyOfSaving() {
        ShareKeeper x = new ShareKeeper(0, 0, 0);
        x.group(0, 0);
        x.group(0, 2);
        x.most(1, 3, 5);
        x.most(2, 3, 5);
        x.most(0, 3, 5);
        x.run(10);
        due("plain", x.look(1, 5), 0);
        due("whole", x.look(2, 5), 0);
        due("root", x.look(0, 5), 0);
        ShareKeeper y = new ShareKeeper(0, 0, 0);
        y.group(0, 1);
        y.task(1);
        y.work(0, 100);
        y.most(1, 9, 10);
        y.run(9);
        y.most(1, 4, 10);
        due("room is 0 at least", y.look(1, 4), 0);
        y.run(1);
        due("saved is 0 at least", y.look(1, 5), 0);
    }

    private static void promise12Who() {
        ShareKeeper x = new ShareKeeper(1, 0, 0);
        due("none yet", x.who(0), -2);
        due("-1", x.who(-1), -1);
        due("2 of 2", x.who(2), -1);
        x.task(0);
        x.work(0, 1);
        x.run(1);
        due("first", x.who(0), 0);
        due("second", x.who(1), -2);
        x.run(1);
        due("none any more", x.who(0), -2);
    }

    private static void promise12WhoOfTheLastTask() {
        ShareKeeper x = new ShareKeeper(3, 0, 0);
        for (int t = 0; t < 32; t++) {
            x.task(0);
        }
        x.work(31, 2);
        x.work(20, 1);
        due("two", x.run(1), 2);
        due("first", x.who(0), 20);
        due("second", x.who(1), 31);
        due("third", x.who(2), -2);
        due("one", x.run(1), 1);
        due("the last one", x.who(0), 31);
        due("no second", x.who(1), -2);
    }

    private static void promise19Vtime() {
        ShareKeeper x = new ShareKeeper(0, 0, 0);
        due("root of a new one", x.vtime(0), -1);
        x.group(0, 0);
        due("group of a new one", x.vtime(1), 0);
        x.task(1);
        x.weight(1, 3);
        x.weight(100, 7);
        x.work(0, 10);
        x.run(2);
        due("group", x.vtime(1), 666666);
        due("task", x.vtime(100), 285714);
        due("root behind ticks", x.vtime(0), -1);
        due("no group", x.vtime(2), -1);
        due("99", x.vtime(99), -1);
        due("no task", x.vtime(101), -1);
        due("-1", x.vtime(-1), -1);
        due("lowest", x.vtime(Integer.MIN_VALUE), -1);
        due("highest", x.vtime(Integer.MAX_VALUE), -1);
        x.weight(1, 1);
        x.weight(100, 1000);
        x.run(5);
        due("group", x.vtime(1), 5666666);
        due("task", x.vtime(100), 290714);
        ShareKeeper y = new ShareKeeper(0, 0, 0);
        y.task(0);
        y.weight(100, 1);
        for (int i = 0; i < 5; i++) {
            y.work(0, 1000);
        }
        for (int i = 0; i < 20; i++) {
            y.run(200);
        }
        due("beyond an int", y.vtime(100), 4000000000L);
    }

    // The document has no other VTIME at first: 0, also where FLOOR is above it, until one WANTS.
    private static void promise19VtimeOfNewOnes() {
        ShareKeeper x = new ShareKeeper(0, 0, 0);
        x.task(0);
        x.work(0, 100);
        x.run(5);
        x.task(0);
        x.group(0, 0);
        due("task", x.vtime(101), 0);
        due("group", x.vtime(1), 0);
        x.run(5);
        due("task without work", x.vtime(101), 0);
        due("group without tasks", x.vtime(1), 0);
        x.task(1);
        x.work(2, 9);
        due("between 100000 and 0", x.even(0), 100000);
        x.run(1);
        due("lifted to 90000, then a tick", x.vtime(1), 100000);
        due("in it FLOOR is 0", x.vtime(102), 10000);
    }

    private static void promise20Pressed() {
        ShareKeeper x = new ShareKeeper(0, 0, 0);
        x.group(0, 0);
        x.group(0, 0);
        x.task(1);
        x.task(2);
        due("none closed", x.pressed(0, false, 30), 0);
        due("n 0", x.pressed(0, false, 0), -1);
        due("n 31", x.pressed(0, true, 31), -1);
        due("no group", x.pressed(3, false, 5), -1);
        x.work(0, 20);
        x.work(1, 20);
        x.run(6);
        due("root some", x.pressed(0, false, 30), 6);
        due("root never full", x.pressed(0, true, 30), 0);
        due("1 some", x.pressed(1, false, 30), 3);
        due("1 full", x.pressed(1, true, 30), 3);
        due("1 in the latest one", x.pressed(1, true, 1), 1);
        due("1 in the latest two", x.pressed(1, true, 2), 1);
        x.most(0, 0, 0);
        x.run(40);
        due("30 of them", x.pressed(0, true, 30), 30);
        due("7 of them", x.pressed(2, true, 7), 7);
        x.freeze(1, true);
        x.run(3);
        due("frozen ones don't count", x.pressed(1, false, 30), 27);
        due("others do", x.pressed(2, false, 30), 30);
        x.group(0, 0);
        due("a new one has none", x.pressed(3, false, 30), 0);
    }

    private static void promise20PressedMoves() {
        ShareKeeper x = new ShareKeeper(0, 0, 0);
        x.group(0, 0);
        x.group(1, 0);
        x.group(0, 0);
        x.task(2);
        x.most(0, 0, 0);
        x.work(0, 5);
        x.run(4);
        x.move(2, 3);
        due("it was in 1 then", x.pressed(1, false, 30), 4);
        due("not in 3", x.pressed(3, false, 30), 0);
        x.run(2);
        due("no more in 1", x.pressed(1, false, 30), 4);
        due("now in 3", x.pressed(3, false, 30), 2);
        due("always in 2", x.pressed(2, true, 30), 6);
    }

    private static void promise23Even() {
        ShareKeeper x = new ShareKeeper(0, 0, 0);
        due("no children", x.even(0), -2);
        due("no group", x.even(1), -1);
        due("-1", x.even(-1), -1);
        x.group(0, 0);
        x.task(1);
        x.task(0);
        x.task(0);
        x.work(0, 10);
        due("one child", x.even(0), -2);
        due("one child in it", x.even(1), -2);
        x.work(1, 10);
        due("two", x.even(0), 0);
        x.weight(1, 50);
        x.run(1);
        due("of a tick", x.even(0), 20000);
        x.work(2, 10);
        due("of three", x.even(0), 20000);
        x.run(8);
        x.freeze(1, true);
        long difference = x.vtime(101) - x.vtime(102);
        due("without the frozen one", x.even(0), difference < 0 ? -difference : difference);
        due("nothing changed by it", x.count(0), 10);
    }

    // "two CHILDREN of a GROUP in which TASKS WANT": ROOM isn't asked for.
    private static void promise23EvenWithoutRoom() {
        ShareKeeper x = new ShareKeeper(0, 0, 0);
        x.group(0, 0);
        x.task(1);
        x.task(0);
        x.most(1, 1, 0);
        x.work(0, 9);
        x.work(1, 9);
        x.run(4);
        due("no room", x.look(1, 4), 0);
        due("30000 less 10000", x.even(0), 20000);
        x.most(0, 0, 0);
        due("nor the root's", x.even(0), 20000);
    }

    private static void promise24Plan() {
        ShareKeeper x = new ShareKeeper(0, 0, 0);
        due("no task", x.plan(0, 1), -1);
        x.group(0, 1);
        x.task(1);
        x.task(0);
        x.most(1, 2, 3);
        x.work(0, 100);
        x.work(1, 100);
        due("0", x.plan(0, 0), -1);
        due("201", x.plan(0, 201), -1);
        due("-1", x.plan(-1, 1), -1);
        due("one", x.plan(0, 1), 1);
        due("five", x.plan(0, 5), 2);
        due("200", x.plan(0, 200), 40);
        due("of the other", x.plan(1, 200), 100);
        due("tick stays", x.count(0), 1);
        due("work stays", x.about(0, 1), 100);
        due("used stays", x.about(0, 2), 0);
        due("vtime stays", x.vtime(1), 0);
        due("who stays", x.who(0), -2);
        due("pressure stays", x.pressed(0, false, 30), 0);
        due("period stays", x.look(1, 3), 0);
        x.run(200);
        due("as planned", x.about(0, 2), 40);
        due("the other as planned", x.about(1, 2), 100);
        due("on from there", x.plan(0, 10), 42);
    }

    private static void promise24PlanOfSaving() {
        ShareKeeper x = new ShareKeeper(0, 0, 0);
        x.group(0, 1);
        x.task(1);
        x.task(0);
        x.most(1, 3, 5);
        x.run(19);
        x.work(0, 100);
        x.weight(101, 1);
        due("what is SAVED is planned too", x.plan(0, 11), 1 + 8);
        due("in the next period as well", x.plan(0, 30), 1 + 8 + 3 + 3);
        x.freeze(1, true);
        due("frozen", x.plan(0, 30), 0);
        x.freeze(1, false);
        due("as told", x.run(30), 15);
    }
}
