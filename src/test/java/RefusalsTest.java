import java.util.List;

/** "A refused call changes nothing, but as told." Each refusal of each promise, on keepers that are alike. */
public final class RefusalsTest {
    private static final int LOWEST = Integer.MIN_VALUE;
    private static final int HIGHEST = Integer.MAX_VALUE;
    private static final Checks CHECKS = new Checks("RefusalsTest");

    /** A call, whole. */
    private interface Call {
        long on(ShareKeeper x);
    }

    private static List<String> untouched;

    public static void main(String[] args) {
        untouched = Portrait.of(busy());
        theKeeperIsBusy();
        portraitsShowWhatIsHidden();
        refusedGroupsAndTasks();
        refusedWeightsAndMosts();
        refusedCellsOf();
        refusedFreezeAndMove();
        refusedWorkWorthRunAndPlan();
        refusedAskFreeBackTouch();
        refusedShelves();
        refusedElements();
        refusedQuestions();
        refusedRestore();
        refusedInAFullHouse();
        CHECKS.end();
    }

    /**
     * Two PROCESSORS, M 40, S 6; GROUPS 1 (SAVING), 2 in it (WHOLE), 3, 4 in it (FROZEN); TASKS 0 in 1,
     * 1 in 2, 2 in 3, 3 in THE ROOT, 4 in 4, which is GONE; limits that matter, and an IMAGE.
     */
    private static ShareKeeper busy() {
        ShareKeeper x = new ShareKeeper(1, 20, 6);
        x.group(0, 1);
        x.group(1, 2);
        x.group(0, 0);
        x.group(3, 0);
        x.task(1);
        x.task(2);
        x.task(3);
        x.task(0);
        x.task(4);
        x.weight(1, 300);
        x.weight(102, 50);
        x.most(1, 6, 9);
        x.cellsOf(1, 12, 13, 20);
        x.cellsOf(2, 5, 30, 10);
        x.cellsOf(3, 8, 12, 15);
        x.worth(0, 7);
        x.worth(1, 5);
        x.worth(2, 6);
        x.worth(3, 9);
        for (int t = 1; t < 5; t++) {
            x.work(t, t == 1 ? 3 : 60);
        }
        x.ask(4, 8, false);
        x.ask(2, 4, true);
        x.run(9);
        x.image();
        x.work(0, 60);
        x.work(1, 60);
        x.ask(0, 12, false);
        x.ask(1, 6, true);
        x.run(3);
        x.ask(3, 17, false);
        x.ask(3, 5, true);
        x.ask(2, 3, false);
        x.ask(3, 7, true);
        x.freeze(4, true);
        x.keep(0, 1, 1);
        x.keep(1, 1, 2);
        x.keep(2, 2, 3);
        x.keep(3, 3, 0);
        x.keep(4, 4, 0);
        x.make(5, 3, 4);
        x.make(6, 4, 3);
        x.run(1);
        return x;
    }

    private static void theKeeperIsBusy() {
        ShareKeeper x = busy();
        CHECKS.due("GONE", x.count(8), 1);
        CHECKS.due("TASK 4 is", x.about(4, 6), 1);
        CHECKS.due("some are ASIDE", x.count(7) > 0 ? 1 : 0, 1);
        CHECKS.due("some are SAVED", x.look(1, 5) > 0 ? 1 : 0, 1);
        CHECKS.due("none is free", x.count(6), 0);
        CHECKS.due("the latest ASK did something", x.done(0) + x.done(1) + x.done(2) > 0 ? 1 : 0, 1);
        CHECKS.due("in the midst of a PERIOD", x.count(0), 14);
    }

    private static String firstDifference(List<String> got) {
        for (int i = 0; i < got.size() && i < untouched.size(); i++) {
            if (!got.get(i).equals(untouched.get(i))) {
                return got.get(i) + " was " + untouched.get(i);
            }
        }
        return got.size() == untouched.size() ? "" : "another length";
    }

    private static void refused(String name, long want, Call call) {
        ShareKeeper x = busy();
        CHECKS.due(name, call.on(x), want);
        String difference = firstDifference(Portrait.of(x));
        CHECKS.due(name + " changed: " + difference, difference.isEmpty() ? 0 : 1, 0);
    }

    private static void shows(String name, Call call) {
        ShareKeeper x = busy();
        CHECKS.due(name + " is taken", call.on(x) >= 0 ? 1 : 0, 1);
        CHECKS.due(name + " shows", firstDifference(Portrait.of(x)).isEmpty() ? 0 : 1, 1);
    }

    /** If a portrait couldn't tell these, the tests below would tell nothing. */
    private static void portraitsShowWhatIsHidden() {
        shows("group", x -> x.group(0, 0));
        shows("task", x -> x.task(0));
        shows("WEIGHT", x -> x.weight(1, 299));
        shows("WEIGHT of a TASK", x -> x.weight(100, 99));
        shows("MOST", x -> x.most(1, 5, 9));
        shows("TO SAVE", x -> x.most(1, 6, 1));
        shows("LEAST", x -> x.cellsOf(1, 13, 13, 20));
        shows("LEAST of another", x -> x.cellsOf(3, 7, 12, 15));
        shows("HIGH", x -> x.cellsOf(1, 12, 30, 20));
        shows("TOP", x -> x.cellsOf(1, 12, 13, 19));
        shows("HIGH of THE ROOT", x -> x.cellsOf(0, 0, 1, -1));
        shows("FROZEN", x -> x.freeze(1, true));
        shows("a move", x -> x.move(4, 0));
        shows("a move to the same place", x -> x.move(1, 0));
        shows("work", x -> x.work(0, 1));
        shows("worth", x -> x.worth(1, 4));
        shows("a tick", x -> x.run(1));
        shows("ask", x -> x.ask(0, 1, true));
        shows("free", x -> x.free(0, 1, false));
        shows("touch", x -> x.touch(0));
        shows("image", x -> x.image());
        shows("restore", x -> x.restore());
        shows("keep", x -> x.keep(0, 2, 0));
        shows("make", x -> x.make(7, 3, 0));
        shows("make one place less", x -> x.make(5, 3, 3));
        shows("copy", x -> x.copy(3, 0, 5, 0, 1));
    }

    private static void refusedGroupsAndTasks() {
        refused("group(-1, 0)", -1, x -> x.group(-1, 0));
        refused("group(5, 0)", -1, x -> x.group(5, 0));
        refused("group(0, -1)", -1, x -> x.group(0, -1));
        refused("group(0, 3)", -1, x -> x.group(0, 3));
        refused("task(-1)", -1, x -> x.task(-1));
        refused("task(5)", -1, x -> x.task(5));
        refused("task(HIGHEST)", -1, x -> x.task(HIGHEST));
    }

    private static void refusedWeightsAndMosts() {
        refused("weight(0, 5)", -1, x -> x.weight(0, 5));
        refused("weight(5, 5)", -1, x -> x.weight(5, 5));
        refused("weight(105, 5)", -1, x -> x.weight(105, 5));
        refused("weight(1, 0)", -1, x -> x.weight(1, 0));
        refused("weight(1, 1001)", -1, x -> x.weight(1, 1001));
        refused("weight(100, 0)", -1, x -> x.weight(100, 0));
        refused("weight(100, 1001)", -1, x -> x.weight(100, 1001));
        refused("most(1, -2, 1)", -1, x -> x.most(1, -2, 1));
        refused("most(1, 41, 1)", -1, x -> x.most(1, 41, 1));
        refused("most(1, 1, -1)", -1, x -> x.most(1, 1, -1));
        refused("most(1, 1, 101)", -1, x -> x.most(1, 1, 101));
        refused("most(5, 1, 1)", -1, x -> x.most(5, 1, 1));
        refused("most(-1, 1, 1)", -1, x -> x.most(-1, 1, 1));
    }

    private static void refusedCellsOf() {
        refused("no GROUP", -1, x -> x.cellsOf(5, 1, 1, 1));
        refused("LEAST -1", -1, x -> x.cellsOf(1, -1, 30, 1));
        refused("LEAST 101", -1, x -> x.cellsOf(1, 101, 30, 1));
        refused("HIGH -2", -1, x -> x.cellsOf(1, 6, -2, 1));
        refused("HIGH 101", -1, x -> x.cellsOf(1, 6, 101, 1));
        refused("TOP -2", -1, x -> x.cellsOf(1, 6, 30, -2));
        refused("TOP 101", -1, x -> x.cellsOf(1, 6, 30, 101));
        refused("LEAST of THE ROOT", -1, x -> x.cellsOf(0, 1, 1, -1));
        refused("TOP of THE ROOT", -1, x -> x.cellsOf(0, 0, 1, 1));
        refused("more than M", -3, x -> x.cellsOf(1, 33, 30, 1));
        refused("less than those below", -3, x -> x.cellsOf(1, 4, 30, 1));
        refused("more than the one above", -3, x -> x.cellsOf(2, 13, 1, 1));
        refused("more than the one above, which has 8", -3, x -> x.cellsOf(4, 9, 1, 1));
    }

    private static void refusedFreezeAndMove() {
        refused("freeze THE ROOT", -1, x -> x.freeze(0, true));
        refused("thaw THE ROOT", -1, x -> x.freeze(0, false));
        refused("freeze none", -1, x -> x.freeze(5, true));
        refused("move THE ROOT", -1, x -> x.move(0, 1));
        refused("move none", -1, x -> x.move(5, 0));
        refused("move under none", -1, x -> x.move(1, 5));
        refused("move under itself", -1, x -> x.move(1, 1));
        refused("move under what is in it", -1, x -> x.move(3, 4));
        refused("move with too much LEAST", -3, x -> x.move(1, 3));
        refused("move with too much LEAST", -3, x -> x.move(2, 4));
    }

    private static void refusedWorkWorthRunAndPlan() {
        refused("work(0, 0)", -1, x -> x.work(0, 0));
        refused("work(0, 1001)", -1, x -> x.work(0, 1001));
        refused("work(0, LOWEST)", -1, x -> x.work(0, LOWEST));
        refused("work(5, 1)", -1, x -> x.work(5, 1));
        refused("work of a GONE one", -1, x -> x.work(4, 1));
        refused("worth(0, -1)", -1, x -> x.worth(0, -1));
        refused("worth(0, 1001)", -1, x -> x.worth(0, 1001));
        refused("worth(5, 1)", -1, x -> x.worth(5, 1));
        refused("worth of a GONE one", -1, x -> x.worth(4, 1));
        refused("run(0)", -1, x -> x.run(0));
        refused("run(201)", -1, x -> x.run(201));
        refused("run(-1)", -1, x -> x.run(-1));
        refused("plan(0, 0)", -1, x -> x.plan(0, 0));
        refused("plan(0, 201)", -1, x -> x.plan(0, 201));
        refused("plan(5, 1)", -1, x -> x.plan(5, 1));
        refused("a plan isn't refused, it changes nothing either", 0, x -> x.plan(0, 200) < 0 ? 1 : 0);
    }

    private static void refusedAskFreeBackTouch() {
        refused("ask(0, 0)", -1, x -> x.ask(0, 0, true));
        refused("ask(0, 201)", -1, x -> x.ask(0, 201, true));
        refused("ask(0, LOWEST)", -1, x -> x.ask(0, LOWEST, false));
        refused("ask(5, 1)", -1, x -> x.ask(5, 1, false));
        refused("ask of a GONE one", -1, x -> x.ask(4, 1, false));
        refused("free(0, 0)", -1, x -> x.free(0, 0, false));
        refused("free(0, -1)", -1, x -> x.free(0, -1, false));
        refused("free of too many KEPT", -1, x -> x.free(0, x.about(0, 3) + 1, false));
        refused("free of too many LOOSE", -1, x -> x.free(3, x.about(3, 4) + 1, true));
        refused("free of a GONE one", -1, x -> x.free(4, 1, false));
        refused("free of none", -1, x -> x.free(5, 1, true));
        refused("back without any ASIDE", -1, x -> x.back(1));
        refused("back of a GONE one", -1, x -> x.back(4));
        refused("back of none", -1, x -> x.back(5));
        refused("touch of a GONE one", -1, x -> x.touch(4));
        refused("touch of none", -1, x -> x.touch(5));
    }

    private static void refusedShelves() {
        refused("keep on no SHELF", -1, x -> x.keep(8, 0, 0));
        refused("keep no such thing", -1, x -> x.keep(0, 5, 0));
        refused("keep no such thing", -1, x -> x.keep(0, -1, 0));
        refused("keep no GROUP", -1, x -> x.keep(0, 1, 5));
        refused("keep no TASK", -1, x -> x.keep(0, 2, 5));
        refused("make on no SHELF", -1, x -> x.make(-1, 3, 1));
        refused("make no ROW", -1, x -> x.make(0, 2, 1));
        refused("make too large", -1, x -> x.make(0, 3, 61));
        refused("make below 0", -14, x -> x.make(0, 3, -1));
        refused("copy from no SHELF", -1, x -> x.copy(8, 0, 5, 0, 1));
        refused("copy to no SHELF", -1, x -> x.copy(3, 0, -1, 0, 1));
        refused("copy nothing", -11, x -> x.copy(7, 0, 5, 0, 1));
        refused("copy to nothing", -11, x -> x.copy(3, 0, 7, 0, 1));
        refused("copy a GROUP", -12, x -> x.copy(0, 0, 5, 0, 1));
        refused("copy to a TASK", -12, x -> x.copy(3, 0, 2, 0, 1));
        refused("copy shorts to booleans", -12, x -> x.copy(3, 0, 6, 0, 1));
        refused("copy beyond its end", -13, x -> x.copy(3, 0, 5, 0, 5));
        refused("copy beyond its end", -13, x -> x.copy(3, 0, 5, 3, 2));
        refused("copy below 0", -13, x -> x.copy(3, 0, 5, -1, 2));
        refused("heft of no SHELF", -1, x -> x.heft(8));
        refused("heft of nothing", -11, x -> x.heft(7));
        refused("heft of a ROW", -12, x -> x.heft(3));
        refused("toss of no SHELF", -1, x -> x.toss(8));
        refused("toss of nothing", -11, x -> x.toss(7));
        refused("toss of a ROW", -12, x -> x.toss(4));
        refused("toss of a TASK", -15, x -> x.toss(2));
        refused("a FAILURE is thrown and caught", 2, x -> x.toss(1));
    }

    private static long thrown(ShareKeeper x, int d, int i) {
        try {
            x.element(d, i);
        } catch (IllegalArgumentException e) {
            return 1;
        } catch (IllegalStateException e) {
            return 2;
        }
        return 0;
    }

    private static void refusedElements() {
        refused("element of no SHELF", 1, x -> thrown(x, 8, 0));
        refused("element of nothing", 2, x -> thrown(x, 7, 0));
        refused("element of a GROUP", 2, x -> thrown(x, 0, 0));
        refused("element beyond the end", 2, x -> thrown(x, 5, 4));
        refused("element below 0", 2, x -> thrown(x, 5, -1));
    }

    private static void refusedQuestions() {
        refused("who(2)", -1, x -> x.who(2));
        refused("look(5, 0)", -1, x -> x.look(5, 0));
        refused("look(0, 10)", -1, x -> x.look(0, 10));
        refused("about(5, 0)", -1, x -> x.about(5, 0));
        refused("about(0, 9)", -1, x -> x.about(0, 9));
        refused("vtime(0)", -1, x -> x.vtime(0));
        refused("pressed(0, false, 31)", -1, x -> x.pressed(0, false, 31));
        refused("pressed(5, false, 1)", -1, x -> x.pressed(5, false, 1));
        refused("gone(1, 0)", -1, x -> x.gone(1, 0));
        refused("gone(0, 4)", -1, x -> x.gone(0, 4));
        refused("done(3)", -1, x -> x.done(3));
        refused("even(5)", -1, x -> x.even(5));
        refused("even(4)", -2, x -> x.even(4));
        refused("count(9)", -1, x -> x.count(9));
        refused("an even() changes nothing either", 0, x -> x.even(0) < -2 ? 1 : 0);
    }

    private static void refusedRestore() {
        ShareKeeper x = new ShareKeeper(0, 0, 0);
        ShareKeeper y = new ShareKeeper(0, 0, 0);
        ShareKeeper[] both = {x, y};
        for (ShareKeeper z : both) {
            z.task(0);
            z.work(0, 9);
            z.run(3);
            z.ask(0, 4, true);
        }
        CHECKS.due("restore without an IMAGE", x.restore(), -2);
        CHECKS.due("nothing changed", Portrait.of(x).equals(Portrait.of(y)) ? 1 : 0, 1);
    }

    private static ShareKeeper full() {
        ShareKeeper x = new ShareKeeper(0, 0, 0);
        for (int g = 1; g <= 19; g++) {
            x.group(g <= 5 ? g - 1 : 0, g % 3);
        }
        for (int t = 0; t <= 31; t++) {
            x.task(t % 20);
        }
        x.work(31, 9);
        return x;
    }

    private static String house(ShareKeeper x) {
        StringBuilder seen = new StringBuilder();
        for (int what = 0; what <= 8; what++) {
            seen.append(x.count(what)).append(' ');
        }
        for (int g = 0; g <= 20; g++) {
            seen.append(x.look(g, 0)).append(x.look(g, 1)).append(x.look(g, 7)).append(x.look(g, 8)).append(' ');
        }
        for (int t = 0; t <= 32; t++) {
            seen.append(x.about(t, 0)).append(x.about(t, 1)).append(' ');
        }
        return seen.append(x.run(10)).append(x.about(31, 2)).toString();
    }

    /** "-2 no room" */
    private static void refusedInAFullHouse() {
        String before = house(full());
        ShareKeeper x = full();
        CHECKS.due("group", x.group(0, 0), -2);
        CHECKS.due("group of another KIND", x.group(4, 2), -2);
        CHECKS.due("group six below", x.group(5, 0), -1);
        CHECKS.due("task", x.task(0), -2);
        CHECKS.due("task of the last GROUP", x.task(19), -2);
        CHECKS.due("move six below", x.move(6, 5), -1);
        CHECKS.due("nothing changed", house(x).equals(before) ? 1 : 0, 1);
    }
}
