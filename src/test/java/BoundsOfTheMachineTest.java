/** Boundary cases of THE MACHINE, GROUPS and TASKS as they come: Terms, promises 1 to 3 and 27. */
public final class BoundsOfTheMachineTest {
    private static final int LOWEST = Integer.MIN_VALUE;
    private static final int HIGHEST = Integer.MAX_VALUE;
    private static final Checks CHECKS = new Checks("BoundsOfTheMachineTest");

    private static void due(String call, long got, long want) {
        CHECKS.due(call, got, want);
    }

    public static void main(String[] args) {
        processorsWrapAround();
        asManyTicksAsProcessors();
        cellsWrapAround();
        asideWrapsAround();
        allThreeWrapAroundAlone();
        aNewObjectIsEmpty();
        theRootIsPlain();
        kindsOfGroups();
        groupsStandUnderGroupsThatAreThere();
        twentyGroups();
        fiveBelowTheRoot();
        sixBelowBehindAMove();
        noSuchIsAheadOfNoRoomForGroups();
        aGroupAtFirst();
        tasksStandUnderGroupsThatAreThere();
        thirtyTwoTasks();
        tasksOfTheLowestGroup();
        noSuchIsAheadOfNoRoomForTasks();
        aTaskAtFirst();
        countsThatAreThere();
        countsAtTheirEnds();
        CHECKS.end();
    }

    /** "PROCESSORS 1 + (processors modulo 4, from 0)" */
    private static void processorsWrapAround() {
        int[][] made = {{-8, 1}, {-5, 4}, {-4, 1}, {-3, 2}, {-1, 4}, {0, 1}, {1, 2}, {2, 3}, {3, 4}, {4, 1},
            {7, 4}, {8, 1}, {LOWEST, 1}, {LOWEST + 3, 4}, {HIGHEST, 4}, {HIGHEST - 3, 1}};
        for (int[] m : made) {
            due("PROCESSORS of " + m[0], new ShareKeeper(m[0], 0, 0).count(1), m[1]);
        }
    }

    /** "THE MACHINE has PROCESSORS (1 .. 4)" */
    private static void asManyTicksAsProcessors() {
        for (int p = 0; p < 4; p++) {
            ShareKeeper x = new ShareKeeper(p, 0, 0);
            for (int t = 0; t < 5; t++) {
                x.task(0);
                x.work(t, 9);
            }
            due("ticks in a tick with " + (p + 1), x.run(1), p + 1);
            due("who did the last one", x.who(p), p);
            due("none beyond it", x.who(p + 1), -1);
        }
    }

    /** "M 20 + (cells modulo 81, from 0)" */
    private static void cellsWrapAround() {
        int[][] made = {{-82, 100}, {-81, 20}, {-80, 21}, {-1, 100}, {0, 20}, {1, 21}, {79, 99}, {80, 100},
            {81, 20}, {161, 100}, {162, 20}, {LOWEST, 36}, {HIGHEST, 84}};
        for (int[] m : made) {
            ShareKeeper x = new ShareKeeper(0, m[0], 0);
            due("M of " + m[0], x.count(2), m[1]);
            due("all are free", x.count(6), m[1]);
            x.task(0);
            due("M can be asked for", x.ask(0, m[1], false), m[1]);
            due("none is free", x.count(6), 0);
            due("no more than M", x.ask(0, 1, false), -3);
        }
    }

    /** "S aside modulo 41, from 0" */
    private static void asideWrapsAround() {
        int[][] made = {{-42, 40}, {-41, 0}, {-40, 1}, {-1, 40}, {0, 0}, {1, 1}, {39, 39}, {40, 40}, {41, 0},
            {81, 40}, {82, 0}, {LOWEST, 2}, {HIGHEST, 38}};
        for (int[] m : made) {
            ShareKeeper x = new ShareKeeper(0, 80, m[0]);
            due("S of " + m[0], x.count(3), m[1]);
            x.task(0);
            x.task(0);
            x.worth(0, 1);
            x.ask(0, 100, false);
            if (m[1] > 0) {
                due("S can be put ASIDE", x.ask(1, m[1], true), m[1]);
                due("they are", x.count(7), m[1]);
                due("none went", x.count(8), 0);
                x.ask(1, 1, false);
                due("its LOOSE one is dropped first", x.done(0), 1);
            }
            x.worth(1, 2);
            due("no more than S: one goes", x.ask(1, 41, false), m[1] == 0 ? 41 : 42);
            due("that went", x.count(8), 1);
        }
    }

    private static void allThreeWrapAroundAlone() {
        ShareKeeper x = new ShareKeeper(6, 100, 50);
        due("PROCESSORS", x.count(1), 3);
        due("M", x.count(2), 39);
        due("S", x.count(3), 9);
        ShareKeeper y = new ShareKeeper(-1, -1, -1);
        due("PROCESSORS of -1", y.count(1), 4);
        due("M of -1", y.count(2), 100);
        due("S of -1", y.count(3), 40);
    }

    /** "TICKS are numbered, the one that is open is 1 at first"; "(at first)", "0 ahead of any". */
    private static void aNewObjectIsEmpty() {
        ShareKeeper x = new ShareKeeper(1, 5, 7);
        int[] counts = {1, 2, 25, 7, 1, 0, 25, 0, 0};
        for (int what = 0; what < counts.length; what++) {
            due("count(" + what + ")", x.count(what), counts[what]);
        }
        due("no tick was closed", x.pressed(0, false, 30), 0);
        due("nor FULL", x.pressed(0, true, 1), 0);
        due("who of the first", x.who(0), -2);
        due("who of the last", x.who(1), -2);
        due("none is GONE", x.gone(0, 0), -1);
        due("no two CHILDREN", x.even(0), -2);
        due("no IMAGE", x.restore(), -2);
        for (int what = 0; what < 3; what++) {
            due("done(" + what + ")", x.done(what), 0);
        }
        for (int d = 0; d < 8; d++) {
            due("SHELF " + d, x.heft(d), -11);
        }
        due("no TASK 0", x.about(0, 0), -1);
        due("no GROUP 1", x.look(1, 0), -1);
        due("ticks without a TASK", x.run(1), 0);
    }

    /** "GROUP 0 is THE ROOT"; "THE ROOT is PLAIN." */
    private static void theRootIsPlain() {
        ShareKeeper x = new ShareKeeper(0, 0, 0);
        int[] root = {0, -2, 0, 0, -2, 0, 0, 0, 0, 0};
        for (int what = 0; what < root.length; what++) {
            due("look(0, " + what + ")", x.look(0, what), root[what]);
        }
    }

    /** "KINDS of GROUPS: 0 PLAIN; 1 SAVING; 2 WHOLE" */
    private static void kindsOfGroups() {
        ShareKeeper x = new ShareKeeper(0, 0, 0);
        CHECKS.range("KIND", 0, 2, kind -> x.group(0, kind));
        due("refused ones made none", x.count(4), 3);
        due("2", x.look(1, 0), 2);
        due("0", x.look(2, 0), 0);
    }

    private static void groupsStandUnderGroupsThatAreThere() {
        ShareKeeper x = new ShareKeeper(0, 0, 0);
        due("under the one that would come", x.group(1, 0), -1);
        x.group(0, 0);
        CHECKS.range("under", 0, 1, under -> x.group(under, 0));
        due("a TASK's number is no GROUP", x.group(100, 0), -1);
    }

    /** "GROUPS are 0 .. 19 as they come" */
    private static void twentyGroups() {
        ShareKeeper x = new ShareKeeper(0, 0, 0);
        for (int g = 1; g <= 19; g++) {
            due("no GROUP yet", x.look(g, 8), -1);
            due("GROUP", x.group(g > 9 ? g - 9 : 0, 0), g);
            due("GROUPS", x.count(4), g + 1);
        }
        due("the twentieth below THE ROOT", x.group(0, 0), -2);
        due("once more, another KIND", x.group(19, 2), -2);
        due("GROUPS stay", x.count(4), 20);
        due("no GROUP 20", x.look(20, 0), -1);
        due("THE ROOT has no more TASKS", x.look(0, 7), 0);
        due("a TASK still has room", x.task(19), 0);
    }

    /** "each other one stands under a GROUP, at most 5 below THE ROOT"; "-1 (six below THE ROOT, too)" */
    private static void fiveBelowTheRoot() {
        ShareKeeper x = new ShareKeeper(0, 0, 0);
        for (int g = 1; g <= 5; g++) {
            due("below", x.group(g - 1, 0), g);
            due("how far", x.look(g, 8), g);
        }
        for (int kind = 0; kind < 3; kind++) {
            due("six below", x.group(5, kind), -1);
        }
        due("GROUPS", x.count(4), 6);
        due("another one five below", x.group(4, 0), 6);
        due("how far", x.look(6, 8), 5);
        due("none below that either", x.group(6, 0), -1);
    }

    private static void sixBelowBehindAMove() {
        ShareKeeper x = new ShareKeeper(0, 0, 0);
        for (int g = 1; g <= 5; g++) {
            x.group(g - 1, 0);
        }
        x.move(5, 3);
        due("four below now", x.group(5, 0), 6);
        due("five below", x.look(6, 8), 5);
        x.move(5, 0);
        due("one below, its own two", x.look(6, 8), 2);
        x.move(5, 3);
        due("six below again", x.group(6, 0), -1);
    }

    /** "Answers of several refusals are the first one here: -1 ..; -2 no room" */
    private static void noSuchIsAheadOfNoRoomForGroups() {
        ShareKeeper x = new ShareKeeper(0, 0, 0);
        for (int g = 1; g <= 5; g++) {
            x.group(g - 1, 0);
        }
        for (int g = 6; g <= 19; g++) {
            x.group(0, 0);
        }
        due("no room", x.group(4, 0), -2);
        due("six below, no room", x.group(5, 0), -1);
        due("no such KIND, no room", x.group(0, 3), -1);
        due("no such KIND, no room", x.group(0, -1), -1);
        due("no such GROUP, no room", x.group(20, 0), -1);
        due("no such GROUP, no room", x.group(-1, 0), -1);
    }

    /** "(.. 100 at first)", "(.. none: -1, at first)", "LEAST (0 at first), HIGH (-1 none, at first), .." */
    private static void aGroupAtFirst() {
        ShareKeeper x = new ShareKeeper(0, 0, 0);
        x.group(0, 1);
        x.group(1, 0);
        x.task(1);
        int[] first = {1, 0, 0, 0, -2, 0, 0, 1, 1, 0};
        for (int what = 0; what < first.length; what++) {
            due("look(1, " + what + ")", x.look(1, what), first[what]);
        }
        due("VTIME", x.vtime(1), 0);
        due("LEAST 0: none for those below", x.cellsOf(2, 1, -1, -1), -3);
        due("no TOP: all of M", x.ask(0, 20, false), 20);
        x.work(0, 5);
        due("no HIGH: tick after tick", x.run(3), 3);
        due("WEIGHT", x.weight(1, 1), 100);
        due("WEIGHT of THE ROOT shows in its HEFT", x.keep(0, 1, 0) + x.heft(0), 100);
    }

    private static void tasksStandUnderGroupsThatAreThere() {
        ShareKeeper x = new ShareKeeper(0, 0, 0);
        x.group(0, 0);
        x.group(0, 0);
        CHECKS.range("under", 0, 2, under -> x.task(under));
        due("refused ones made none", x.count(5), 2);
        due("the last GROUP's", x.about(0, 0), 2);
        due("THE ROOT's", x.about(1, 0), 0);
    }

    /** "TASKS are 0 .. 31 as they come" */
    private static void thirtyTwoTasks() {
        ShareKeeper x = new ShareKeeper(0, 0, 0);
        x.group(0, 0);
        for (int t = 0; t <= 31; t++) {
            due("no TASK yet", x.about(t, 1), -1);
            due("TASK", x.task(1), t);
            due("TASKS", x.count(5), t + 1);
        }
        due("the thirty-third", x.task(1), -2);
        due("of THE ROOT", x.task(0), -2);
        due("TASKS stay", x.count(5), 32);
        due("TASKS in it", x.look(1, 7), 32);
        due("no TASK 32", x.about(32, 0), -1);
        due("the last one can be used", x.work(31, 1), 1);
        due("a GROUP still has room", x.group(0, 0), 2);
        due("GONE ones make no room", x.ask(31, 21, false), -4);
        x.ask(31, 20, false);
        due("it goes", x.ask(31, 1, false), -3);
        due("no room", x.task(1), -2);
    }

    /** "each under a GROUP": only GROUPS are at most five below. */
    private static void tasksOfTheLowestGroup() {
        ShareKeeper x = new ShareKeeper(0, 0, 0);
        for (int g = 1; g <= 5; g++) {
            x.group(g - 1, 0);
        }
        due("TASK", x.task(5), 0);
        x.work(0, 2);
        due("it runs", x.run(1), 1);
        for (int g = 0; g <= 5; g++) {
            due("USED of each GROUP in which it is", x.look(g, 2), 1);
        }
    }

    private static void noSuchIsAheadOfNoRoomForTasks() {
        ShareKeeper x = new ShareKeeper(0, 0, 0);
        for (int t = 0; t <= 31; t++) {
            x.task(0);
        }
        due("no room", x.task(0), -2);
        due("no such GROUP, no room", x.task(1), -1);
        due("no such GROUP, no room", x.task(-1), -1);
    }

    /** "WORK (ticks, 0 at first)", "WORTH (0 at first)", "(TOUCH is 0 at first.)" */
    private static void aTaskAtFirst() {
        ShareKeeper x = new ShareKeeper(0, 0, 0);
        x.run(11);
        x.task(0);
        for (int what = 0; what <= 8; what++) {
            due("about(0, " + what + ")", x.about(0, what), 0);
        }
        due("VTIME", x.vtime(100), 0);
        due("WORTH", x.worth(0, 5), 0);
        due("WEIGHT", x.weight(100, 5), 100);
        due("TOUCH", x.touch(0), 0);
    }

    /** "0 the tick that is open, .. 8 TASKS that are GONE; -1 for others." */
    private static void countsThatAreThere() {
        ShareKeeper x = new ShareKeeper(0, 0, 0);
        CHECKS.range("count", 0, 8, what -> x.count(what));
    }

    private static void countsAtTheirEnds() {
        ShareKeeper x = new ShareKeeper(0, 0, 1);
        x.task(0);
        x.task(0);
        x.run(200);
        due("the tick", x.count(0), 201);
        x.ask(0, 19, false);
        due("one is free", x.count(6), 1);
        x.ask(0, 1, true);
        due("none is free", x.count(6), 0);
        x.ask(1, 2, false);
        due("none is free still", x.count(6), 0);
        due("all that can be ASIDE", x.count(7), 1);
        due("none is GONE", x.count(8), 0);
        x.worth(1, 1);
        x.ask(1, 18, false);
        due("one is GONE", x.count(8), 1);
        due("none is free: no, all were asked for", x.count(6), 0);
        due("its ASIDE ones went too", x.count(7), 0);
        due("TASKS are there, GONE or not", x.count(5), 2);
    }
}
