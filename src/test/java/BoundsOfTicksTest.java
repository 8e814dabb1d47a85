/** Boundary cases of ticks: WANTS, PERIODS, ROOM, SAVED, CHOOSING, PRESSURE; promises 9 to 12, 19, 20, 23, 24. */
public final class BoundsOfTicksTest {
    private static final Checks CHECKS = new Checks("BoundsOfTicksTest");

    private static void due(String call, long got, long want) {
        CHECKS.due(call, got, want);
    }

    public static void main(String[] args) {
        workFromOneToAThousand();
        workUpToAHundredThousand();
        workOfTasksThatAreThere();
        worthUpToAThousand();
        runUpToTwoHundred();
        runWithAndWithoutWork();
        whoOfEachProcessor();
        whoOfTheLatestTickAlone();
        periodsBeginAtElevenAndTwentyOne();
        roomIsZeroAtLeast();
        savedIsZeroAtLeast();
        savedUpToToSave();
        savedAsThePeriodBegins();
        savedOfSavingOnesWithMost();
        savedWithMostOfNone();
        savedIsUsedUp();
        aRoomOfOneAmongProcessors();
        aRoomOfOneInAGroupBelow();
        aRoomOfNoneBesideOthers();
        wantsWithOneTickOfWork();
        wantsAtHighAndAboveIt();
        wantsAboveHighAfterARest();
        wantsByTheHighOfAnyGroup();
        asideCellsAreNotAboveHigh();
        wantsUnderAFrozenGroup();
        tiesGoToTheFirstChild();
        tiesAfterAMove();
        floorAtLeast();
        floorOfTheFirstTick();
        floorAfterATickOfRest();
        floorByThoseThatWereInItThen();
        floorOfTheLastProcessor();
        vtimeOfAllThatIsThere();
        pressedUpToThirty();
        pressedThirtyTicksAgo();
        pressedWithoutClosedTicks();
        someAndFull();
        evenOfFewerThanTwo();
        evenOfTheGreatest();
        planUpToTwoHundred();
        planAsARunWould();
        theLastOfAllCalls();
        CHECKS.end();
    }

    private static ShareKeeper withTasks(int processors, int tasks, int work) {
        ShareKeeper x = new ShareKeeper(processors - 1, 0, 0);
        for (int t = 0; t < tasks; t++) {
            x.task(0);
            if (work > 0) {
                x.work(t, work);
            }
        }
        return x;
    }

    /** "A TASK has n ticks (1 .. 1000) of WORK more" */
    private static void workFromOneToAThousand() {
        ShareKeeper x = withTasks(1, 1, 0);
        CHECKS.range("work", 1, 1000, n -> x.work(0, n));
        due("both came", x.about(0, 1), 1001);
        due("how much", x.work(0, 999), 2000);
    }

    /** "100000 in all at most" */
    private static void workUpToAHundredThousand() {
        ShareKeeper x = withTasks(1, 2, 0);
        for (int i = 1; i <= 99; i++) {
            due("how much", x.work(0, 1000), 1000 * i);
        }
        due("99999", x.work(0, 999), 99999);
        due("two more", x.work(0, 2), -1);
        due("a thousand more", x.work(0, 1000), -1);
        due("none came", x.about(0, 1), 99999);
        due("100000", x.work(0, 1), 100000);
        due("one more", x.work(0, 1), -1);
        due("another TASK", x.work(1, 1), 1);
        x.run(1);
        due("one was done", x.about(0, 1), 99999);
        due("100000 again", x.work(0, 1), 100000);
        due("one more again", x.work(0, 1), -1);
        due("it stays", x.about(0, 1), 100000);
    }

    private static void workOfTasksThatAreThere() {
        ShareKeeper x = new ShareKeeper(0, 0, 0);
        due("no TASK", x.work(0, 1), -1);
        x.task(0);
        x.task(0);
        CHECKS.range("work of TASK", 0, 1, task -> x.work(task, 1));
        CHECKS.range("worth of TASK", 0, 1, task -> x.worth(task, 1));
        due("100 and its number is none", x.work(100, 1), -1);
    }

    /** "WORTH of a TASK (0 .. 1000): the one before." */
    private static void worthUpToAThousand() {
        ShareKeeper x = withTasks(1, 1, 0);
        CHECKS.range("worth", 0, 1000, worth -> x.worth(0, worth));
        due("0 came last", x.worth(0, 1000), 0);
        due("refused", x.worth(0, 1001), -1);
        due("refused", x.worth(0, -1), -1);
        due("1000 is the one before", x.worth(0, 0), 1000);
    }

    /** "n ticks (1 .. 200)" */
    private static void runUpToTwoHundred() {
        ShareKeeper x = withTasks(1, 1, 1000);
        CHECKS.range("run", 1, 200, n -> x.run(n));
        due("the tick behind 200 and 1", x.count(0), 202);
        due("all were done", x.about(0, 2), 201);
        ShareKeeper y = withTasks(4, 4, 1000);
        due("200 of four", y.run(200), 800);
        due("0", y.run(0), -1);
        due("201", y.run(201), -1);
        due("the tick stays", y.count(0), 201);
    }

    /** "how many ticks TASKS did" */
    private static void runWithAndWithoutWork() {
        ShareKeeper x = withTasks(1, 1, 3);
        due("less than there is", x.run(2), 2);
        due("more than there is", x.run(2), 1);
        due("none is left", x.run(2), 0);
        due("ticks go on", x.count(0), 7);
        due("WORK", x.about(0, 1), 0);
    }

    /** "The TASK that a PROCESSOR did a tick of in the latest tick; -2: none. -1." */
    private static void whoOfEachProcessor() {
        for (int p = 1; p <= 4; p++) {
            ShareKeeper x = withTasks(p, 3, 5);
            int last = p - 1;
            CHECKS.range("who ahead of any tick, " + p, 0, last, processor -> x.who(processor));
            due("none", x.who(0), -2);
            x.run(1);
            CHECKS.range("who, " + p, 0, last, processor -> x.who(processor));
            for (int i = 0; i < p; i++) {
                due("who of " + i, x.who(i), i < 3 ? i : -2);
            }
        }
    }

    private static void whoOfTheLatestTickAlone() {
        ShareKeeper x = withTasks(2, 2, 0);
        x.work(0, 1);
        x.work(1, 2);
        x.run(1);
        due("both", x.who(0) + 10 * x.who(1), 10);
        x.run(1);
        due("the one that is left", x.who(0), 1);
        due("none beside it", x.who(1), -2);
        x.run(1);
        due("none", x.who(0), -2);
    }

    /** "tick t is in PERIOD (t - 1) / 10, cut" */
    private static void periodsBeginAtElevenAndTwentyOne() {
        ShareKeeper x = withTasks(1, 1, 100);
        x.run(9);
        due("tick 10 is open: still the first", x.look(0, 3), 9);
        x.run(1);
        due("tick 11 is open: the second", x.look(0, 3), 0);
        x.run(1);
        due("1 in it", x.look(0, 3), 1);
        x.run(8);
        due("tick 20 is open: still the second", x.look(0, 3), 9);
        x.run(1);
        due("tick 21 is open: the third", x.look(0, 3), 0);
        due("USED goes on", x.look(0, 2), 20);
    }

    /** "Its ROOM is MOST and SAVED less what was done in this PERIOD (0 at least)." */
    private static void roomIsZeroAtLeast() {
        ShareKeeper x = withTasks(1, 1, 100);
        x.run(5);
        x.most(0, 6, 0);
        due("6 less 5", x.look(0, 4), 1);
        x.most(0, 5, 0);
        due("5 less 5", x.look(0, 4), 0);
        x.most(0, 4, 0);
        due("4 less 5", x.look(0, 4), 0);
        x.most(0, 0, 0);
        due("0 less 5", x.look(0, 4), 0);
        due("none may", x.run(5), 0);
        x.most(0, 4, 0);
        due("the next PERIOD", x.look(0, 4), 4);
    }

    private static ShareKeeper saving(int most, int save) {
        ShareKeeper x = new ShareKeeper(0, 0, 0);
        x.group(0, 1);
        x.task(1);
        x.most(1, most, save);
        return x;
    }

    /** "SAVED becomes SAVED and MOST less what was done in the PERIOD before (0 at least)" */
    private static void savedIsZeroAtLeast() {
        for (int most = 3; most <= 5; most++) {
            ShareKeeper x = saving(9, 50);
            x.work(0, 4);
            x.run(9);
            x.most(1, most, 50);
            x.run(1);
            due(most + " less 4", x.look(1, 5), most == 5 ? 1 : 0);
        }
    }

    /** "or TO SAVE (0 .. 100; 0 at first), if that is less" */
    private static void savedUpToToSave() {
        for (int save = 4; save <= 8; save++) {
            ShareKeeper x = saving(9, save);
            x.work(0, 3);
            x.run(10);
            due("6 are left, TO SAVE " + save, x.look(1, 5), Math.min(6, save));
        }
        ShareKeeper none = saving(9, 0);
        none.run(10);
        due("TO SAVE 0", none.look(1, 5), 0);
        ShareKeeper one = saving(9, 1);
        one.run(10);
        due("TO SAVE 1", one.look(1, 5), 1);
    }

    /** "As a PERIOD begins (its first tick becomes the one that is open)" */
    private static void savedAsThePeriodBegins() {
        ShareKeeper x = saving(4, 50);
        due("at first", x.look(1, 5), 0);
        x.run(9);
        due("tick 10 is open", x.look(1, 5), 0);
        x.run(1);
        due("tick 11 is open", x.look(1, 5), 4);
        due("ROOM", x.look(1, 4), 8);
        x.run(9);
        due("tick 20 is open", x.look(1, 5), 4);
        x.run(1);
        due("tick 21 is open", x.look(1, 5), 8);
        due("of a run over several PERIODS", x.run(30), 0);
        due("tick 51 is open", x.look(1, 5), 20);
    }

    /** "(of SAVING ones with MOST; else it is 0)" */
    private static void savedOfSavingOnesWithMost() {
        ShareKeeper x = new ShareKeeper(0, 0, 0);
        for (int kind = 0; kind <= 2; kind++) {
            x.group(0, kind);
            x.most(kind + 1, 5, 50);
        }
        x.most(0, 5, 50);
        x.run(10);
        due("PLAIN", x.look(1, 5), 0);
        due("SAVING", x.look(2, 5), 5);
        due("WHOLE", x.look(3, 5), 0);
        due("THE ROOT", x.look(0, 5), 0);
        x.most(2, -1, 50);
        due("it stays till the PERIOD ends", x.look(2, 5), 5);
        x.run(9);
        due("it stays till the PERIOD ends", x.look(2, 5), 5);
        x.run(1);
        due("without MOST", x.look(2, 5), 0);
        x.most(2, 5, 50);
        due("MOST again", x.look(2, 5), 0);
        x.run(10);
        due("anew", x.look(2, 5), 5);
    }

    /** MOST 0 is a MOST: what was SAVED stays SAVED. */
    private static void savedWithMostOfNone() {
        ShareKeeper x = saving(4, 50);
        x.run(10);
        x.most(1, 0, 50);
        due("ROOM of SAVED alone", x.look(1, 4), 4);
        x.work(0, 1);
        due("it may", x.run(10), 1);
        due("SAVED", x.look(1, 5), 3);
        x.work(0, 50);
        due("it may, thrice", x.run(10), 3);
        due("SAVED", x.look(1, 5), 0);
        due("no more", x.run(10), 0);
    }

    private static void savedIsUsedUp() {
        ShareKeeper x = saving(3, 2);
        x.run(10);
        x.work(0, 100);
        due("MOST and SAVED", x.run(10), 5);
        due("none is SAVED", x.look(1, 5), 0);
        due("MOST alone", x.run(10), 3);
    }

    /** "a GROUP, if its ROOM is above 0": each PROCESSOR looks at it anew. */
    private static void aRoomOfOneAmongProcessors() {
        for (int most = 0; most <= 3; most++) {
            ShareKeeper x = new ShareKeeper(2, 0, 0);
            x.group(0, 0);
            for (int t = 0; t < 3; t++) {
                x.task(1);
                x.work(t, 9);
            }
            x.most(1, most, 0);
            due("MOST " + most + " in a tick of three", x.run(1), most);
            due("ROOM", x.look(1, 4), 0);
            due("no more", x.run(9), 0);
        }
        ShareKeeper y = withTasks(3, 3, 9);
        y.most(0, 2, 0);
        due("MOST 2 of THE ROOT", y.run(1), 2);
        due("the third PROCESSOR", y.who(2), -2);
    }

    private static void aRoomOfOneInAGroupBelow() {
        ShareKeeper x = new ShareKeeper(3, 0, 0);
        x.group(0, 0);
        x.group(1, 0);
        for (int t = 0; t < 3; t++) {
            x.task(2);
            x.work(t, 9);
        }
        x.task(1);
        x.work(3, 9);
        x.most(1, 2, 0);
        x.most(2, 1, 0);
        due("1 below, 2 in all", x.run(1), 2);
        due("below", x.look(2, 3), 1);
        due("the TASK beside it", x.about(3, 2), 1);
        x.run(9);
        x.most(2, 40, 0);
        due("the smaller one counts", x.run(1), 2);
        x.run(9);
        x.most(1, 40, 0);
        x.most(2, 0, 0);
        due("none below", x.run(1), 1);
    }

    /** "of the CHILDREN that may": one without ROOM is passed over, its VTIME stays the least. */
    private static void aRoomOfNoneBesideOthers() {
        ShareKeeper x = new ShareKeeper(0, 0, 0);
        x.group(0, 0);
        x.task(1);
        x.task(0);
        x.work(0, 9);
        x.work(1, 9);
        x.most(1, 0, 0);
        due("the other one", x.run(3), 3);
        due("who", x.who(0), 1);
        due("VTIME", x.vtime(1), 0);
        due("it WANTED: SOME", x.pressed(1, false, 30), 3);
    }

    /** "A TASK has WORK (ticks, 0 at first) and WANTS, if it has WORK" */
    private static void wantsWithOneTickOfWork() {
        ShareKeeper x = withTasks(1, 1, 0);
        due("without WORK", x.about(0, 8), 0);
        due("no tick", x.run(1), 0);
        x.work(0, 1);
        due("with 1", x.about(0, 8), 1);
        due("a tick", x.run(1), 1);
        due("without WORK again", x.about(0, 8), 0);
        due("no SOME", x.pressed(0, false, 30), 0);
    }

    private static ShareKeeper withCells(int cells, int high) {
        ShareKeeper x = new ShareKeeper(0, 0, 0);
        x.group(0, 0);
        x.task(1);
        x.work(0, 100);
        if (cells > 0) {
            x.ask(0, cells, false);
        }
        x.cellsOf(1, 0, high, -1);
        return x;
    }

    /** "a GROUP in which it is has more CELLS than its HIGH" */
    private static void wantsAtHighAndAboveIt() {
        int[][] ticks = {{4, 5, 6}, {5, 5, 6}, {6, 5, 3}, {0, 0, 6}, {1, 0, 3}, {20, 19, 3}, {20, 20, 6},
            {20, 100, 6}, {20, -1, 6}};
        for (int[] t : ticks) {
            ShareKeeper x = withCells(t[0], t[1]);
            due("six ticks with " + t[0] + " CELLS, HIGH " + t[1], x.run(6), t[2]);
        }
        ShareKeeper loose = withCells(5, 5);
        loose.run(1);
        due("would WANT", loose.about(0, 8), 1);
        loose.ask(0, 1, true);
        due("one LOOSE cell more", loose.about(0, 8), 0);
        loose.free(0, 1, false);
        due("one less", loose.about(0, 8), 1);
    }

    /** "not both: it did a tick in the tick before, and .." */
    private static void wantsAboveHighAfterARest() {
        ShareKeeper x = withCells(6, 5);
        due("ahead of any tick", x.about(0, 8), 1);
        due("a tick", x.run(1), 1);
        due("behind it", x.about(0, 8), 0);
        due("a rest", x.run(1), 0);
        due("behind that", x.about(0, 8), 1);
        due("no SOME of a rest", x.pressed(1, false, 30), 0);
        due("a tick", x.run(1), 1);
    }

    private static void wantsByTheHighOfAnyGroup() {
        for (int g = 0; g <= 3; g++) {
            ShareKeeper x = new ShareKeeper(0, 0, 0);
            for (int i = 1; i <= 3; i++) {
                x.group(i - 1, 0);
            }
            x.task(3);
            x.task(0);
            x.work(0, 9);
            x.ask(0, 3, false);
            x.ask(1, 1, false);
            x.cellsOf(g, 0, g == 0 ? 4 : 3, -1);
            due("at HIGH of " + g, x.run(2), 2);
            x.cellsOf(g, 0, g == 0 ? 3 : 2, -1);
            due("above HIGH of " + g, x.run(2), 1);
        }
    }

    /** "CELLS of a GROUP are KEPT and LOOSE ones" */
    private static void asideCellsAreNotAboveHigh() {
        ShareKeeper x = new ShareKeeper(0, 0, 10);
        x.group(0, 0);
        x.task(1);
        x.task(0);
        x.work(0, 9);
        x.ask(0, 10, false);
        x.ask(1, 15, false);
        due("CELLS", x.look(1, 6), 5);
        x.cellsOf(1, 0, 5, -1);
        due("5 are ASIDE", x.run(2), 2);
        x.cellsOf(1, 0, 4, -1);
        due("5 are not", x.run(2), 1);
    }

    /** "no GROUP in which it is is FROZEN" */
    private static void wantsUnderAFrozenGroup() {
        for (int g = 1; g <= 3; g++) {
            ShareKeeper x = new ShareKeeper(0, 0, 0);
            for (int i = 1; i <= 3; i++) {
                x.group(i - 1, 0);
            }
            x.group(3, 0);
            x.task(3);
            x.work(0, 9);
            x.freeze(4, true);
            due("one below it doesn't matter", x.about(0, 8), 1);
            x.freeze(g, true);
            due("FROZEN " + g, x.about(0, 8), 0);
            due("no tick", x.run(2), 0);
            x.freeze(g, false);
            due("not any more", x.run(2), 2);
        }
    }

    /** "the one with the least VTIME, of these the first one"; "GROUPS .. by numbers, then its TASKS" */
    private static void tiesGoToTheFirstChild() {
        ShareKeeper x = new ShareKeeper(0, 0, 0);
        x.task(0);
        x.task(0);
        x.group(0, 0);
        x.group(0, 0);
        x.task(2);
        x.task(1);
        for (int t = 0; t < 4; t++) {
            x.work(t, 9);
        }
        int[] order = {3, 2, 0, 1, 3, 2, 0, 1};
        for (int task : order) {
            x.run(1);
            due("who", x.who(0), task);
        }
        ShareKeeper y = withTasks(1, 2, 9);
        y.weight(100, 999);
        y.weight(101, 1000);
        y.run(2);
        due("VTIME 1001", y.vtime(100), 1001);
        due("VTIME 1000", y.vtime(101), 1000);
        y.run(1);
        due("one less is less", y.who(0), 1);
    }

    /** GROUPS go by numbers, not by when they came under it. */
    private static void tiesAfterAMove() {
        ShareKeeper x = new ShareKeeper(0, 0, 0);
        x.group(0, 0);
        x.group(0, 0);
        x.group(2, 0);
        x.task(1);
        x.task(3);
        x.task(2);
        x.move(1, 2);
        for (int t = 0; t < 3; t++) {
            x.work(t, 9);
        }
        int[] order = {0, 1, 2, 0, 1, 2};
        for (int task : order) {
            x.run(1);
            due("who", x.who(0), task);
        }
    }

    /** "has VTIME FLOOR of the GROUP above it at least" */
    private static void floorAtLeast() {
        int[][] weights = {{50, 40000}, {34, 40000}, {25, 40000}, {24, 41666}, {20, 50000}};
        for (int[] w : weights) {
            ShareKeeper x = withTasks(1, 2, 0);
            x.weight(101, w[0]);
            x.work(1, 1);
            x.run(1);
            x.work(0, 5);
            x.run(5);
            due("FLOOR is 40000", x.vtime(100), 50000);
            x.work(1, 1);
            x.weight(101, 1000);
            x.run(1);
            due("then a tick, from " + w[0], x.vtime(101), w[1] + 1000);
        }
    }

    /** "FLOOR of a GROUP .. (0 at first)" */
    private static void floorOfTheFirstTick() {
        ShareKeeper x = new ShareKeeper(1, 0, 0);
        x.group(0, 0);
        x.task(1);
        x.task(1);
        x.work(0, 1);
        x.run(1);
        due("VTIME", x.vtime(100), 10000);
        x.work(1, 1);
        x.run(1);
        due("FLOOR 0: what was chosen had 0", x.vtime(101), 10000);
        x.task(1);
        x.work(2, 1);
        x.run(1);
        due("FLOOR 0 still", x.vtime(102), 10000);
        x.work(0, 1);
        x.run(1);
        due("chosen with 10000", x.vtime(100), 20000);
        x.task(1);
        x.work(3, 1);
        x.run(1);
        due("FLOOR 10000", x.vtime(103), 20000);
    }

    /** "in which none WANTED ahead of CHOOSING in the tick before (.. whether they did a tick or not)" */
    private static void floorAfterATickOfRest() {
        ShareKeeper x = withTasks(1, 2, 100);
        x.weight(100, 1000);
        x.weight(101, 10);
        x.run(2);
        due("1000 and 100000", x.vtime(100) + x.vtime(101), 101000);
        x.work(0, 1);
        x.run(3);
        due("no rest, no lift", x.vtime(100), 4000);
        ShareKeeper y = withTasks(1, 2, 0);
        y.weight(100, 1000);
        y.work(0, 1);
        y.work(1, 100);
        y.run(3);
        due("it has none left: chosen were 0, 0, 10000", y.vtime(100), 1000);
        y.work(0, 1);
        y.run(1);
        due("a rest: lifted to 10000", y.vtime(100), 11000);
        y.work(0, 1);
        y.run(1);
        due("no rest: not lifted", y.vtime(100), 12000);
    }

    /** "(of those that were in it then ..)": one that came or left since doesn't count, or does. */
    private static void floorByThoseThatWereInItThen() {
        ShareKeeper x = new ShareKeeper(0, 0, 0);
        x.group(0, 0);
        x.group(0, 0);
        x.task(2);
        x.task(0);
        x.work(0, 9);
        x.work(1, 9);
        x.run(4);
        x.move(2, 1);
        x.run(1);
        due("who WANTED wasn't in it: lifted to 10000, then a tick", x.vtime(1), 20000);
        due("it WANTED itself: 0 of a new FLOOR, then a tick", x.vtime(2), 10000);
        ShareKeeper y = new ShareKeeper(0, 0, 0);
        y.group(0, 0);
        y.group(1, 0);
        y.task(2);
        y.task(1);
        y.task(0);
        y.most(1, 0, 0);
        y.work(0, 9);
        y.work(2, 9);
        y.run(3);
        y.move(2, 0);
        due("FLOOR there", y.vtime(2), 20000);
        y.most(1, -1, 0);
        y.work(1, 9);
        y.run(1);
        due("who WANTED was in it then: not lifted, a tick", y.vtime(1), 10000);
        due("who", y.who(0), 1);
    }

    /** "the CHILD which was chosen last": of several PROCESSORS the last that found one. */
    private static void floorOfTheLastProcessor() {
        ShareKeeper x = withTasks(2, 2, 9);
        x.weight(101, 10);
        x.run(2);
        due("the first did two", x.vtime(100), 20000);
        due("the second did two, the later from 100000", x.vtime(101), 200000);
        x.task(0);
        x.work(2, 1);
        x.run(1);
        due("lifted to 100000: not chosen first, but second", x.who(1), 2);
        due("then a tick", x.vtime(102), 110000);
    }

    /** "told as with weight(). -1." */
    private static void vtimeOfAllThatIsThere() {
        ShareKeeper x = new ShareKeeper(0, 0, 0);
        due("no GROUP 1", x.vtime(1), -1);
        due("no TASK 0", x.vtime(100), -1);
        x.group(0, 0);
        x.group(0, 0);
        x.task(0);
        CHECKS.range("VTIME of GROUP", 1, 2, which -> x.vtime(which));
        CHECKS.range("VTIME of TASK", 100, 100, which -> x.vtime(which));
        due("THE ROOT", x.vtime(0), -1);
    }

    /** "In how many of the latest n ticks (1 .. 30) of those that were closed" */
    private static void pressedUpToThirty() {
        ShareKeeper x = withTasks(1, 2, 1000);
        x.group(0, 0);
        CHECKS.range("pressed n", 1, 30, n -> x.pressed(0, false, n));
        CHECKS.range("pressed n, FULL", 1, 30, n -> x.pressed(0, true, n));
        CHECKS.range("pressed GROUP", 0, 1, group -> x.pressed(group, false, 1));
        x.run(200);
        for (int n = 1; n <= 30; n++) {
            due("SOME in all of " + n, x.pressed(0, false, n), n);
            due("FULL in none of " + n, x.pressed(0, true, n), 0);
        }
        x.most(0, 0, 0);
        x.run(200);
        for (int n = 1; n <= 30; n++) {
            due("FULL in all of " + n, x.pressed(0, true, n), n);
        }
        due("31", x.pressed(0, true, 31), -1);
        due("0", x.pressed(0, true, 0), -1);
    }

    private static void pressedThirtyTicksAgo() {
        ShareKeeper x = withTasks(1, 1, 0);
        x.most(0, 0, 0);
        x.work(0, 1);
        x.run(1);
        x.most(0, -1, 0);
        x.run(28);
        due("29 closed, in 28", x.pressed(0, false, 28), 0);
        due("29 closed, in 29", x.pressed(0, false, 29), 1);
        due("29 closed, in 30", x.pressed(0, true, 30), 1);
        x.run(1);
        due("30 closed, in 29", x.pressed(0, false, 29), 0);
        due("30 closed, in 30", x.pressed(0, false, 30), 1);
        due("30 closed, FULL in 30", x.pressed(0, true, 30), 1);
        x.run(1);
        due("31 closed, in 30", x.pressed(0, false, 30), 0);
        due("31 closed, FULL in 30", x.pressed(0, true, 30), 0);
    }

    /** "of those that were closed": the one that is open doesn't count. */
    private static void pressedWithoutClosedTicks() {
        ShareKeeper x = withTasks(1, 2, 9);
        due("none closed", x.pressed(0, false, 1), 0);
        x.run(1);
        due("1 closed", x.pressed(0, false, 1), 1);
        due("1 closed, in 30", x.pressed(0, false, 30), 1);
        x.group(0, 0);
        due("a GROUP that came since", x.pressed(1, false, 30), 0);
    }

    /** "SOME ..: a TASK in it WANTED and did no tick. FULL: SOME, and no TASK in it did one." */
    private static void someAndFull() {
        int[][] due = {{1, 0, 0}, {2, 1, 0}, {3, 1, 0}};
        for (int[] d : due) {
            ShareKeeper x = new ShareKeeper(0, 0, 0);
            x.group(0, 0);
            for (int t = 0; t < d[0]; t++) {
                x.task(1);
                x.work(t, 9);
            }
            x.run(1);
            due(d[0] + " TASKS, one did: SOME", x.pressed(1, false, 1), d[1]);
            due(d[0] + " TASKS, one did: FULL", x.pressed(1, true, 1), d[2]);
            x.most(1, 0, 0);
            x.run(1);
            due(d[0] + " TASKS, none did: SOME", x.pressed(1, false, 1), 1);
            due(d[0] + " TASKS, none did: FULL", x.pressed(1, true, 1), 1);
            x.freeze(1, true);
            x.run(1);
            due("none WANTED: SOME", x.pressed(1, false, 1), 0);
            due("none WANTED: FULL", x.pressed(1, true, 1), 0);
        }
        ShareKeeper y = new ShareKeeper(0, 0, 0);
        y.group(0, 0);
        y.group(0, 0);
        y.run(1);
        due("without TASKS: SOME", y.pressed(1, false, 30), 0);
        due("without TASKS: FULL", y.pressed(1, true, 30), 0);
    }

    /** "-2: there are fewer than two. -1." */
    private static void evenOfFewerThanTwo() {
        ShareKeeper x = new ShareKeeper(0, 0, 0);
        x.group(0, 0);
        x.task(0);
        x.task(1);
        CHECKS.range("even of GROUP", 0, 1, group -> x.even(group));
        due("none WANTS", x.even(0), -2);
        x.work(0, 9);
        due("one WANTS", x.even(0), -2);
        x.work(1, 9);
        due("two WANT", x.even(0), 0);
        due("one in the other", x.even(1), -2);
        x.freeze(1, true);
        due("one WANTS again", x.even(0), -2);
        x.freeze(1, false);
        x.task(1);
        x.work(2, 9);
        due("two in the other", x.even(1), 0);
        due("the GROUP counts once", x.even(0), 0);
    }

    /** "The greatest difference of VTIME of two CHILDREN" */
    private static void evenOfTheGreatest() {
        ShareKeeper x = withTasks(3, 3, 9);
        x.weight(100, 1000);
        x.weight(101, 1);
        x.weight(102, 10);
        x.run(1);
        due("of 1000, 1000000, 100000", x.even(0), 999000);
        x.group(0, 0);
        x.task(1);
        x.work(3, 1);
        due("of one at 0, FLOOR isn't looked at", x.even(0), 1000000);
        x.run(1);
        due("that one is done", x.vtime(1), 10000);
        due("of 2000, 1000000 (three PROCESSORS left it out), 200000", x.even(0), 998000);
    }

    /** "behind n ticks (1 .. 200) more" */
    private static void planUpToTwoHundred() {
        ShareKeeper x = withTasks(1, 2, 1000);
        CHECKS.range("plan n", 1, 200, n -> x.plan(0, n));
        CHECKS.range("plan of TASK", 0, 1, task -> x.plan(task, 1));
        due("1", x.plan(0, 1), 1);
        due("1 of the other", x.plan(1, 1), 0);
        due("200", x.plan(0, 200), 100);
        due("0", x.plan(0, 0), -1);
        due("201", x.plan(0, 201), -1);
        due("the tick stays", x.count(0), 1);
        due("no TASK, no n", x.plan(2, 0), -1);
    }

    /** "What a TASK would have USED ..; nothing changes." */
    private static void planAsARunWould() {
        ShareKeeper x = saving(3, 4);
        x.work(0, 100);
        due("the first PERIOD", x.plan(0, 10), 3);
        due("the next tick", x.plan(0, 11), 4);
        due("twenty PERIODS", x.plan(0, 200), 60);
        due("SAVED stays", x.look(1, 5), 0);
        due("USED stays", x.about(0, 2), 0);
        due("who stays", x.who(0), -2);
        due("as planned", x.run(200), 60);
        due("behind that", x.plan(0, 1), 61);
        due("100 in all", x.plan(0, 200), 100);
    }

    /** "An object is used for at most 512 calls": sums stay right up to the last one. */
    private static void theLastOfAllCalls() {
        ShareKeeper x = new ShareKeeper(3, 80, 40);
        x.task(0);
        x.weight(100, 1);
        for (int i = 0; i < 100; i++) {
            x.work(0, 1000);
        }
        for (int i = 0; i < 405; i++) {
            x.run(200);
        }
        due("508: the tick", x.count(0), 81001);
        due("509: USED", x.look(0, 2), 81000);
        due("510: VTIME", x.vtime(100), 81000000000L);
        due("511: WORK", x.about(0, 1), 19000);
        due("512: a plan", x.plan(0, 200), 81200);
    }
}
