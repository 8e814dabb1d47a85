/** Promises 13 to 16, 18, 21 and 22: cells that are asked for, freed, put aside, and who goes. */
public final class CellsTest {
    private static final Checks CHECKS = new Checks("CellsTest");

    private static void due(String call, long got, long want) {
        CHECKS.due(call, got, want);
    }

    public static void main(String[] args) {
        promise13Ask();
        promise13DropsTheEarliestTouch();
        promise13LeastProtects();
        promise13LeastOfSeveralGroups();
        promise13AskersGroupsAreNotProtected();
        promise13AsideTakesTheMost();
        promise13LowestIsPressed();
        promise13GoByWorth();
        promise13GoOfAsideOnly();
        promise13WholeGroups();
        promise13WholeAboveThePressedOne();
        promise13ProtectedKeptCells();
        promise13ProtectedLooseCellsCount();
        promise13RoomForOneAside();
        promise13NoneLeft();
        promise13AskerGoes();
        promise14Free();
        promise15Back();
        promise15BackOfItsOwn();
        promise15BackRefused();
        promise16Touch();
        promise18About();
        promise21Gone();
        promise22Done();
        goneTasks();
        CHECKS.end();
    }

    private static ShareKeeper withTasks(int cells, int aside, int... under) {
        ShareKeeper x = new ShareKeeper(0, cells - 20, aside);
        int groups = 0;
        for (int u : under) {
            groups = Math.max(groups, u);
        }
        for (int g = 0; g < groups; g++) {
            x.group(0, 0);
        }
        for (int u : under) {
            x.task(u);
        }
        return x;
    }

    private static void promise13Ask() {
        ShareKeeper x = withTasks(20, 0, 0);
        due("no task", x.ask(1, 1, false), -1);
        due("-1", x.ask(-1, 1, false), -1);
        due("0", x.ask(0, 0, false), -1);
        due("201", x.ask(0, 201, true), -1);
        x.run(4);
        due("kept", x.ask(0, 3, false), 3);
        due("touch", x.about(0, 7), 5);
        due("loose", x.ask(0, 4, true), 4);
        due("more kept", x.ask(0, 2, false), 5);
        due("free", x.count(6), 11);
        due("all of them", x.ask(0, 11, false), 16);
        due("none free", x.count(6), 0);
        due("its own loose ones go", x.ask(0, 4, false), 20);
        due("none loose", x.about(0, 4), 0);
    }

    private static void promise13DropsTheEarliestTouch() {
        ShareKeeper x = withTasks(20, 0, 0, 0, 0, 0);
        x.ask(0, 5, true);
        x.ask(1, 5, true);
        x.run(1);
        x.ask(2, 5, true);
        x.touch(0);
        due("ask", x.ask(3, 7, false), 7);
        due("task 1 was touched first", x.about(1, 4), 3);
        due("task 0 was touched since", x.about(0, 4), 5);
        due("ask", x.ask(3, 7, false), 14);
        due("task 1 loses the rest", x.about(1, 4), 0);
        due("then the first of those alike", x.about(0, 4), 1);
        due("task 2 keeps", x.about(2, 4), 5);
        due("dropped", x.done(0), 7);
    }

    private static void promise13LeastProtects() {
        ShareKeeper x = withTasks(20, 40, 1, 2, 0);
        x.cellsOf(1, 6, -1, -1);
        x.ask(0, 4, true);
        x.ask(0, 4, false);
        x.run(1);
        x.ask(1, 12, true);
        due("ask", x.ask(2, 5, false), 5);
        due("task 0 loses what is above LEAST", x.about(0, 4), 2);
        due("task 1 loses the rest", x.about(1, 4), 9);
        due("ask more", x.ask(2, 9, false), 14);
        due("all of task 1", x.about(1, 4), 0);
        due("none of task 0", x.about(0, 4), 2);
        due("ask again", x.ask(2, 3, false), 14);
        due("KEPT ones are protected too", x.about(0, 3), 4);
        due("its own were put aside", x.about(2, 5), 3);
        due("put aside", x.done(1), 3);
    }

    private static void promise13LeastOfSeveralGroups() {
        ShareKeeper x = new ShareKeeper(0, 0, 0);
        x.group(0, 0);
        x.group(1, 0);
        x.group(1, 0);
        x.task(2);
        x.task(3);
        x.task(0);
        x.cellsOf(1, 9, -1, -1);
        x.cellsOf(2, 5, -1, -1);
        x.ask(0, 8, true);
        x.ask(1, 4, true);
        due("ask", x.ask(2, 10, false), 10);
        due("3 above LEAST of 2, 3 above LEAST of 1: 2 are wanted", x.about(0, 4), 6);
        due("ask", x.ask(2, 2, true), -3);
        due("1 above LEAST of both", x.about(0, 4), 5);
        due("LEAST of 1 protects what is in 3", x.about(1, 4), 4);
        due("dropped", x.done(0), 1);
        due("one went", x.done(2), 1);
        due("that with the most", x.gone(0, 0), 2);
    }

    private static void promise13AskersGroupsAreNotProtected() {
        ShareKeeper x = new ShareKeeper(0, 0, 0);
        x.group(0, 0);
        x.group(1, 0);
        x.group(1, 0);
        x.task(2);
        x.task(3);
        x.cellsOf(1, 20, -1, -1);
        x.cellsOf(2, 8, -1, -1);
        x.ask(0, 10, true);
        due("ask", x.ask(1, 12, false), 12);
        due("LEAST of 1 doesn't matter, that of 2 does", x.about(0, 4), 8);
        due("ask", x.ask(1, 1, false), -3);
        due("none may lose: the one with the most goes", x.gone(0, 0), 1);
        due("it stays", x.about(0, 4), 8);
    }

    private static void promise13AsideTakesTheMost() {
        ShareKeeper x = withTasks(20, 9, 0, 0, 0);
        x.ask(0, 6, false);
        x.ask(1, 7, false);
        x.ask(2, 7, false);
        due("ask", x.ask(0, 4, true), 4);
        due("the first with the most", x.about(1, 3), 3);
        due("aside", x.about(1, 5), 4);
        due("others stay", x.about(2, 3), 7);
        due("in all", x.count(7), 4);
        due("ask", x.ask(1, 6, false), 9);
        due("loose ones first", x.about(0, 4), 0);
        due("then the most", x.about(2, 3), 5);
        due("aside of that", x.about(2, 5), 2);
        due("dropped", x.done(0), 4);
        due("put aside", x.done(1), 2);
        x.worth(0, 1);
        due("ask", x.ask(0, 4, false), 10);
        due("no more than room: 3, then one goes", x.count(8), 1);
        due("that with the most", x.gone(0, 0), 1);
        due("its aside cells go too", x.count(7), 2);
        due("put aside of it", x.done(1), 3);
    }

    private static void promise13LowestIsPressed() {
        ShareKeeper x = new ShareKeeper(0, 80, 0);
        x.group(0, 0);
        x.group(1, 0);
        x.task(2);
        x.task(1);
        x.task(0);
        x.cellsOf(1, 0, -1, 10);
        x.cellsOf(2, 0, -1, 6);
        x.ask(0, 6, true);
        x.ask(1, 4, true);
        x.ask(2, 50, true);
        due("ask", x.ask(0, 5, false), 5);
        due("in 2", x.about(0, 4), 1);
        due("others stay", x.about(1, 4), 4);
        due("dropped", x.done(0), 5);
        due("ask", x.ask(1, 2, false), 2);
        due("in 1 the earliest, the first", x.about(0, 4), 0);
        due("then the next", x.about(1, 4), 3);
        due("none of the root's", x.about(2, 4), 50);
        due("above TOP alone", x.ask(0, 7, false), -3);
        due("by 2", x.gone(0, 1), 2);
        due("TOP 0", x.cellsOf(2, 0, -1, 0), 0);
    }

    private static void promise13GoByWorth() {
        ShareKeeper x = withTasks(20, 0, 0, 0, 0, 0);
        x.worth(0, 1);
        x.worth(3, 9);
        x.ask(0, 8, false);
        x.ask(1, 3, false);
        x.ask(2, 4, false);
        x.ask(3, 5, false);
        due("ask", x.ask(3, 5, false), 10);
        due("the least WORTH, of these the most cells", x.gone(0, 0), 2);
        due("then the next", x.gone(1, 0), 1);
        due("two", x.done(2), 2);
        due("then worth 1", x.ask(3, 5, false), 15);
        due("that", x.gone(2, 0), 0);
        due("the asker itself", x.ask(3, 6, false), -3);
        due("free", x.count(6), 20);
        ShareKeeper y = withTasks(20, 0, 0, 0, 0);
        y.ask(0, 5, false);
        y.ask(1, 5, false);
        y.worth(2, 1);
        y.ask(2, 10, false);
        y.ask(2, 1, false);
        due("of those alike the first", y.gone(0, 0), 0);
        due("and no more", y.count(8), 1);
    }

    private static void promise13GoOfAsideOnly() {
        ShareKeeper x = withTasks(20, 5, 1, 2);
        x.ask(0, 5, false);
        x.ask(1, 20, false);
        due("all of it is aside or kept", x.count(6), 0);
        due("aside in all", x.count(7), 5);
        due("who has them", x.about(0, 5), 5);
        x.worth(1, 5);
        due("ask", x.ask(1, 1, false), 20);
        due("one with ASIDE cells alone goes", x.gone(0, 0), 0);
        due("that makes room ASIDE", x.about(1, 5), 1);
        due("done: aside", x.done(1), 1);
        due("done: went", x.done(2), 1);
    }

    private static void promise13WholeGroups() {
        ShareKeeper x = new ShareKeeper(0, 0, 0);
        x.group(0, 2);
        x.group(1, 0);
        x.group(2, 2);
        x.task(3);
        x.task(1);
        x.task(0);
        x.task(2);
        x.task(0);
        x.worth(1, 50);
        x.worth(2, 3);
        x.worth(4, 3);
        x.work(3, 7);
        x.ask(0, 5, false);
        x.ask(1, 5, false);
        x.ask(2, 10, false);
        due("ask", x.ask(4, 3, false), 3);
        due("all in the highest WHOLE one", x.done(2), 3);
        due("by numbers", x.gone(0, 0), 0);
        due("by numbers", x.gone(1, 0), 1);
        due("with no cells too", x.gone(2, 0), 3);
        due("work is none", x.about(3, 1), 0);
        due("the others stay", x.about(2, 6), 0);
        due("in the root", x.look(0, 7), 2);
        due("in 1", x.look(1, 7), 0);
        due("free", x.count(6), 7);
    }

    private static void promise13WholeAboveThePressedOne() {
        ShareKeeper x = new ShareKeeper(0, 80, 0);
        x.group(0, 2);
        x.group(1, 2);
        x.group(2, 0);
        x.task(3);
        x.task(3);
        x.task(2);
        x.task(1);
        x.cellsOf(3, 0, -1, 10);
        x.worth(1, 1);
        x.ask(0, 8, false);
        due("a WHOLE one above the PRESSED one doesn't matter", x.ask(1, 5, false), 5);
        due("one went", x.done(2), 1);
        x.cellsOf(3, 0, -1, -1);
        x.cellsOf(2, 0, -1, 10);
        due("the PRESSED one is WHOLE", x.ask(1, 6, false), -3);
        due("two went", x.done(2), 2);
        due("not the one above", x.about(3, 6), 0);
        due("that was PRESSED", x.gone(2, 1), 2);
    }

    private static void promise13ProtectedKeptCells() {
        ShareKeeper x = withTasks(20, 40, 1, 2, 0);
        x.cellsOf(1, 10, -1, -1);
        x.ask(0, 10, false);
        x.ask(1, 6, false);
        due("ask", x.ask(2, 8, false), 8);
        due("the most, but protected", x.about(0, 5), 0);
        due("the most of those that may lose any", x.about(1, 5), 4);
        x.cellsOf(2, 2, -1, -1);
        x.free(2, 8, false);
        x.ask(2, 8, true);
        x.worth(2, 7);
        due("its own loose ones, then one goes though there is room ASIDE", x.ask(2, 9, false), 9);
        due("the most cells", x.gone(0, 0), 0);
        due("dropped", x.done(0), 8);
        due("put aside", x.done(1), 0);
        due("went", x.done(2), 1);
    }

    private static void promise13ProtectedLooseCellsCount() {
        ShareKeeper x = withTasks(20, 0, 1, 1, 0);
        x.cellsOf(1, 18, -1, -1);
        x.worth(2, 1);
        x.ask(0, 8, false);
        x.ask(1, 2, false);
        x.ask(1, 8, true);
        due("ask", x.ask(2, 3, false), 3);
        due("none may be dropped", x.done(0), 0);
        due("KEPT and LOOSE ones count", x.gone(0, 0), 1);
        due("one went", x.count(8), 1);
        ShareKeeper y = withTasks(20, 0, 1, 1, 0);
        y.cellsOf(1, 18, -1, -1);
        y.worth(2, 1);
        y.ask(0, 8, true);
        y.ask(0, 2, false);
        y.ask(1, 8, false);
        y.ask(2, 3, false);
        due("of the first too", y.gone(0, 0), 0);
    }

    private static void promise13RoomForOneAside() {
        ShareKeeper x = withTasks(20, 1, 0, 0);
        x.ask(0, 19, false);
        due("ask", x.ask(1, 2, false), 2);
        due("one is put aside", x.about(0, 5), 1);
        due("free one", x.free(1, 1, false), 1);
        due("back of one", x.back(0), 19);
        due("none aside", x.count(7), 0);
    }

    private static void promise13NoneLeft() {
        ShareKeeper x = withTasks(20, 0, 1, 1, 0);
        x.cellsOf(1, 0, -1, 5);
        x.ask(1, 2, true);
        x.ask(2, 3, true);
        due("more than TOP", x.ask(0, 6, false), -4);
        due("what was done stays", x.about(1, 4), 0);
        due("done", x.done(0), 2);
        due("others stay", x.about(2, 4), 3);
        due("touch stays", x.about(0, 7), 0);
        due("more than M", x.ask(0, 200, false), -4);
        due("none dropped", x.done(0), 0);
        x.cellsOf(1, 0, -1, -1);
        due("more than M", x.ask(0, 21, false), -4);
        due("dropped", x.done(0), 3);
        due("M", x.ask(0, 20, false), 20);
        x.cellsOf(1, 0, -1, 0);
        due("TOP 0", x.ask(1, 1, false), -4);
        due("the one with cells went", x.about(0, 6), 1);
    }

    private static void promise13AskerGoes() {
        ShareKeeper x = withTasks(20, 0, 0, 0);
        x.worth(1, 5);
        x.ask(0, 5, false);
        x.ask(1, 5, false);
        due("ask", x.ask(0, 30, false), -3);
        due("gone", x.about(0, 6), 1);
        due("nothing more is done for it", x.about(1, 6), 0);
        due("kept of the other", x.about(1, 3), 5);
        due("went", x.done(2), 1);
        due("by itself", x.gone(0, 2), 0);
    }

    private static void promise14Free() {
        ShareKeeper x = withTasks(20, 5, 0, 0);
        due("none", x.free(0, 1, false), -1);
        x.ask(0, 5, false);
        x.ask(0, 6, true);
        x.run(1);
        due("no task", x.free(2, 1, false), -1);
        due("-1", x.free(-1, 1, false), -1);
        due("0", x.free(0, 0, false), -1);
        due("below 0", x.free(0, -3, true), -1);
        due("lowest", x.free(0, Integer.MIN_VALUE, true), -1);
        due("too many kept", x.free(0, 6, false), -1);
        due("too many loose", x.free(0, 7, true), -1);
        due("kept", x.free(0, 2, false), 3);
        due("loose", x.free(0, 6, true), 0);
        due("free", x.count(6), 17);
        due("cells", x.look(0, 6), 3);
        due("touch stays", x.about(0, 7), 1);
        x.ask(1, 20, false);
        due("put aside", x.about(0, 5), 3);
        due("aside ones can't be freed", x.free(0, 1, false), -1);
    }

    private static void promise15Back() {
        ShareKeeper x = withTasks(20, 10, 0, 0);
        due("none aside", x.back(0), -1);
        due("no task", x.back(2), -1);
        due("-1", x.back(-1), -1);
        x.ask(0, 12, false);
        x.ask(1, 15, false);
        due("aside", x.about(0, 5), 7);
        x.free(1, 9, false);
        x.run(3);
        due("back", x.back(0), 12);
        due("none aside", x.about(0, 5), 0);
        due("none in all", x.count(7), 0);
        due("touch", x.about(0, 7), 4);
        due("free", x.count(6), 2);
        due("done", x.done(1), 0);
        due("again", x.back(0), -1);
    }

    private static void promise15BackOfItsOwn() {
        ShareKeeper x = withTasks(20, 20, 0, 0);
        x.ask(0, 9, false);
        x.ask(1, 14, false);
        due("of task 1", x.about(1, 3), 14);
        due("task 0 aside", x.about(0, 5), 3);
        x.free(1, 10, false);
        x.ask(0, 10, false);
        due("task 0 kept", x.about(0, 3), 16);
        due("task 1 kept", x.about(1, 3), 4);
        due("back", x.back(0), 16);
        due("its own were put aside for it", x.about(0, 5), 3);
        due("put aside", x.done(1), 3);
        due("all", x.count(6), 0);
    }

    private static void promise15BackRefused() {
        ShareKeeper x = withTasks(20, 6, 1, 0, 0);
        x.ask(0, 10, false);
        x.ask(1, 16, false);
        due("aside", x.about(0, 5), 6);
        x.cellsOf(1, 0, -1, 5);
        x.worth(1, 1);
        due("back", x.back(0), -3);
        due("it went", x.gone(0, 0), 0);
        due("the PRESSED one", x.gone(0, 1), 1);
        due("its aside cells too", x.count(7), 0);
        ShareKeeper y = withTasks(20, 3, 1, 1);
        y.ask(0, 3, false);
        y.ask(1, 20, false);
        due("aside", y.about(0, 5), 3);
        y.worth(1, 1);
        due("back where its ASIDE cells are the only ones of least WORTH", y.back(0), -3);
        due("the other stays", y.about(1, 3), 20);
    }

    private static void promise16Touch() {
        ShareKeeper x = withTasks(20, 0, 0);
        due("no task", x.touch(1), -1);
        due("-1", x.touch(-1), -1);
        due("at first", x.touch(0), 0);
        due("then", x.touch(0), 1);
        x.run(5);
        due("still", x.touch(0), 1);
        due("now", x.touch(0), 6);
    }

    private static void promise18About() {
        ShareKeeper x = withTasks(20, 5, 1, 0);
        x.work(0, 9);
        x.run(3);
        x.ask(0, 8, false);
        x.ask(1, 15, false);
        x.ask(0, 2, true);
        int[] of0 = {1, 6, 3, 5, 2, 3, 0, 4, 1};
        for (int what = 0; what < of0.length; what++) {
            due("about(0, " + what + ")", x.about(0, what), of0[what]);
        }
        due("about(0, -1)", x.about(0, -1), -1);
        due("about(0, 9)", x.about(0, 9), -1);
        due("about(2, 0)", x.about(2, 0), -1);
        due("about(-1, 0)", x.about(-1, 0), -1);
        due("without WORK", x.about(1, 8), 0);
    }

    private static void promise21Gone() {
        ShareKeeper x = withTasks(20, 0, 1, 0);
        due("none", x.gone(0, 0), -1);
        x.worth(1, 2);
        x.ask(0, 5, false);
        x.run(6);
        x.ask(1, 20, false);
        due("task", x.gone(0, 0), 0);
        due("pressed", x.gone(0, 1), 0);
        due("asker", x.gone(0, 2), 1);
        due("tick", x.gone(0, 3), 7);
        due("what 4", x.gone(0, 4), -1);
        due("what -1", x.gone(0, -1), -1);
        due("i 1", x.gone(1, 0), -1);
        due("i -1", x.gone(-1, 0), -1);
        due("gone", x.count(8), 1);
    }

    private static void promise22Done() {
        ShareKeeper x = withTasks(20, 4, 0, 0, 0);
        for (int what = 0; what < 3; what++) {
            due("ahead of any", x.done(what), 0);
        }
        due("-1", x.done(-1), -1);
        due("3", x.done(3), -1);
        x.worth(2, 1);
        x.ask(0, 6, true);
        x.ask(0, 6, false);
        x.ask(1, 8, false);
        x.ask(2, 19, false);
        due("dropped", x.done(0), 6);
        due("aside", x.done(1), 4);
        due("went", x.done(2), 2);
        due("refused by -1", x.ask(0, 1, false), -1);
        due("back refused by -1", x.back(2), -1);
        due("stays", x.done(1), 4);
        due("a plain one", x.ask(2, 1, false), 20);
        due("none", x.done(0), 0);
        due("none", x.done(1), 0);
        due("none", x.done(2), 0);
    }

    private static void goneTasks() {
        ShareKeeper x = withTasks(20, 0, 0, 0);
        x.work(0, 5);
        x.run(2);
        x.worth(1, 9);
        x.ask(0, 5, false);
        x.ask(1, 20, false);
        due("work", x.work(0, 1), -1);
        due("ask", x.ask(0, 1, true), -1);
        due("back", x.back(0), -1);
        due("touch", x.touch(0), -1);
        due("worth", x.worth(0, 1), -1);
        due("free", x.free(0, 1, false), -1);
        due("weight is there", x.weight(100, 5), 100);
        due("vtime is there", x.vtime(100), 20000);
        due("used stays", x.about(0, 2), 2);
        due("used of the root stays", x.look(0, 2), 2);
        due("plan", x.plan(0, 9), 2);
        due("work is none", x.about(0, 1), 0);
        due("doesn't want", x.about(0, 8), 0);
        due("its group", x.about(0, 0), 0);
        due("tasks", x.count(5), 2);
        due("run", x.run(3), 0);
    }
}
