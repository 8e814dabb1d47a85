/** Boundary cases of CELLS: TO ASK, DROP, ASIDE, GO, BACK; promises 13 to 16, 18, 21, 22. */
public final class BoundsOfCellsTest {
    private static final int LOWEST = Integer.MIN_VALUE;
    private static final int HIGHEST = Integer.MAX_VALUE;
    private static final Checks CHECKS = new Checks("BoundsOfCellsTest");

    private static void due(String call, long got, long want) {
        CHECKS.due(call, got, want);
    }

    public static void main(String[] args) {
        askForOneToTwoHundred();
        tasksThatAreThere();
        askForAllOfM();
        askUpToTop();
        askAboveATopThatCameLater();
        topOfNoneAndOfAHundred();
        theLowestOfSeveralIsPressed();
        eachPressedOneIsLookedAtAnew();
        dropAsManyAsWanted();
        dropByTheEarliestTouch();
        dropItsOwn();
        dropAboveLeast();
        dropWithFewerThanLeast();
        dropByTheLeastOfSeveralGroups();
        leastOfThePressedOneDoesNotMatter();
        leastOfTheAskersGroupsDoesNotMatter();
        asideUpToItsRoom();
        asideOfTheMost();
        asideAboveLeast();
        asideBehindDrop();
        goByTheLeastWorth();
        goByTheMostCells();
        goOfThoseWithCells();
        goThoughLeastIsAboveIt();
        wholeGroupsAtThePressedOne();
        wholeGroupsWithGoneOnes();
        noneLeftToGo();
        whatWasDoneStays();
        theAskerGoes();
        theAskerGoesAndNoneIsLeft();
        freeWhatItHas();
        backOfNoneAndOfOne();
        backWithoutRoom();
        backKeepsItsAsideTillItIsDone();
        touchOfTheOpenTick();
        goneTasksGetNothing();
        aboutAllThatIsThere();
        goneAsTheyWent();
        doneOfTheLatest();
        CHECKS.end();
    }

    /** M as told; the n-th TASK stands under the n-th of these GROUPS, which all stand under THE ROOT. */
    private static ShareKeeper withTasks(int m, int s, int... under) {
        ShareKeeper x = new ShareKeeper(0, m - 20, s);
        int groups = 0;
        for (int u : under) {
            groups = Math.max(groups, u);
        }
        for (int g = 0; g < groups; g++) {
            x.group(0, 0);
        }
        for (int u : under) {
            x.task(u);
        }
        return x;
    }

    /** "TO ASK for n (1 .. 200)" */
    private static void askForOneToTwoHundred() {
        ShareKeeper x = withTasks(20, 0, 0);
        CHECKS.range("ask KEPT", 1, 200, n -> x.ask(0, n, false));
        due("200 was -4, 1 was given", x.about(0, 3), 1);
        ShareKeeper y = withTasks(20, 0, 0);
        CHECKS.range("ask LOOSE", 1, 200, n -> y.ask(0, n, true));
        due("200 was -4, 1 was given", y.about(0, 4), 1);
        ShareKeeper z = withTasks(20, 0, 0);
        due("200", z.ask(0, 200, false), -4);
        due("201", z.ask(0, 201, false), -1);
        due("0", z.ask(0, 0, false), -1);
        due("1", z.ask(0, 1, false), 1);
    }

    private static void tasksThatAreThere() {
        ShareKeeper x = withTasks(40, 2, 0, 0);
        CHECKS.range("ask", 0, 1, task -> x.ask(task, 3, false));
        CHECKS.range("ask LOOSE", 0, 1, task -> x.ask(task, 3, true));
        CHECKS.range("free", 0, 1, task -> x.free(task, 1, false));
        CHECKS.range("free LOOSE", 0, 1, task -> x.free(task, 1, true));
        CHECKS.range("touch", 0, 1, task -> x.touch(task));
        CHECKS.range("about", 0, 1, task -> x.about(task, 3));
        ShareKeeper y = withTasks(20, 2, 0, 0, 0);
        y.ask(0, 10, false);
        y.ask(1, 10, false);
        y.ask(2, 1, false);
        y.ask(2, 1, false);
        due("one each", y.about(0, 5) + 10 * y.about(1, 5), 11);
        y.free(2, 2, false);
        CHECKS.range("back", 0, 1, task -> y.back(task));
        due("both came back", y.count(7), 0);
        ShareKeeper z = new ShareKeeper(0, 0, 0);
        due("ask of none", z.ask(0, 1, false), -1);
        due("free of none", z.free(0, 1, false), -1);
        due("back of none", z.back(0), -1);
        due("touch of none", z.touch(0), -1);
        due("about none", z.about(0, 3), -1);
    }

    /** "THE MACHINE (as THE ROOT, M as TOP) has too few" */
    private static void askForAllOfM() {
        for (int m = 20; m <= 100; m += 80) {
            ShareKeeper x = withTasks(m, 0, 0, 0);
            due("M", x.ask(0, m, false), m);
            due("done: none", x.done(0) + x.done(1) + x.done(2), 0);
            due("free one", x.free(0, 1, false), m - 1);
            due("one for another", x.ask(1, 1, false), 1);
            x.worth(1, 5);
            due("one more", x.ask(1, 1, false), 2);
            due("one went", x.done(2), 1);
            ShareKeeper y = withTasks(m, 0, 0);
            due("M and 1", y.ask(0, m + 1, false), -4);
            due("M less 1", y.ask(0, m - 1, true), m - 1);
            due("the last one", y.ask(0, 1, true), m);
            due("none was dropped", y.done(0), 0);
        }
    }

    /** "whose CELLS and n are above its TOP" */
    private static void askUpToTop() {
        ShareKeeper x = withTasks(100, 0, 1, 1);
        x.cellsOf(1, 0, -1, 10);
        due("TOP and 1 of none", x.ask(0, 11, false), -4);
        due("one less than TOP", x.ask(0, 9, true), 9);
        due("TOP", x.ask(1, 1, true), 1);
        due("none was dropped", x.done(0), 0);
        due("TOP and 1", x.ask(1, 1, false), 1);
        due("one was dropped", x.done(0), 1);
        due("CELLS", x.look(1, 6), 10);
    }

    private static void askAboveATopThatCameLater() {
        ShareKeeper x = withTasks(100, 0, 1, 1, 0);
        x.ask(0, 10, true);
        x.ask(1, 10, true);
        due("a TOP below its CELLS", x.cellsOf(1, 0, -1, 5), 0);
        due("CELLS stay", x.look(1, 6), 20);
        due("of others it isn't looked at", x.ask(2, 5, false), 5);
        due("CELLS stay", x.look(1, 6), 20);
        due("one", x.ask(1, 1, false), 1);
        due("16 were dropped", x.done(0), 16);
        due("all of the first", x.about(0, 4), 0);
        due("6 of the second", x.about(1, 4), 4);
    }

    /** "TOP (-1 none, at first)", "(-1 .. 100 each)" */
    private static void topOfNoneAndOfAHundred() {
        ShareKeeper x = withTasks(100, 0, 1);
        x.cellsOf(1, 0, -1, 0);
        due("TOP 0", x.ask(0, 1, false), -4);
        x.cellsOf(1, 0, -1, 1);
        due("TOP 1", x.ask(0, 1, false), 1);
        x.cellsOf(1, 0, -1, 99);
        x.free(0, 1, false);
        due("TOP 99", x.ask(0, 100, false), -4);
        x.cellsOf(1, 0, -1, 100);
        due("TOP 100", x.ask(0, 100, false), 100);
        x.free(0, 100, false);
        x.cellsOf(1, 0, -1, -1);
        due("no TOP", x.ask(0, 100, false), 100);
    }

    /** "of these the one that stands lowest is PRESSED" */
    private static void theLowestOfSeveralIsPressed() {
        ShareKeeper x = new ShareKeeper(0, 0, 0);
        for (int g = 1; g <= 5; g++) {
            x.group(g - 1, 0);
            x.task(g);
        }
        x.task(0);
        for (int t = 0; t < 5; t++) {
            x.worth(t, 9 - t);
            x.ask(t, 2, false);
        }
        for (int g = 1; g <= 5; g++) {
            x.cellsOf(g, 0, -1, 12 - 2 * g);
        }
        due("all are full: the lowest", x.ask(4, 1, false), -3);
        due("it was PRESSED", x.gone(0, 1), 5);
        x.worth(5, 20);
        due("THE ROOT alone", x.ask(5, 13, false), 13);
        due("it was PRESSED", x.gone(1, 1), 0);
        due("by", x.gone(1, 2), 5);
        due("the least WORTH", x.gone(1, 0), 3);
        due("one alone", x.count(8), 2);
        due("a full one in the middle: it is above by 1", x.cellsOf(2, 0, -1, 4) + x.ask(2, 1, false), -3);
        due("the lowest that is above", x.gone(2, 1), 2);
    }

    /** "one thing is done ..; then it is looked at anew" */
    private static void eachPressedOneIsLookedAtAnew() {
        ShareKeeper x = new ShareKeeper(0, 0, 0);
        x.group(0, 0);
        x.group(1, 0);
        x.task(2);
        x.task(1);
        x.task(0);
        x.ask(0, 4, true);
        x.ask(1, 6, true);
        x.ask(2, 10, true);
        x.cellsOf(2, 0, -1, 6);
        x.cellsOf(1, 0, -1, 11);
        due("5", x.ask(0, 5, false), 5);
        due("3 in the lowest", x.about(0, 4), 0);
        due("1 more of it in the next, then 1 of the first that has any in THE ROOT", x.about(1, 4), 5);
        due("that is enough", x.about(2, 4), 10);
        due("dropped", x.done(0), 5);
    }

    /** "as many of its LOOSE cells as are wanted (..), or as it has" */
    private static void dropAsManyAsWanted() {
        for (int n = 4; n <= 6; n++) {
            ShareKeeper x = withTasks(20, 0, 0, 0, 0);
            x.ask(0, 5, true);
            x.run(1);
            x.ask(1, 15, true);
            due("ask", x.ask(2, n, false), n);
            due("of the first", x.about(0, 4), Math.max(0, 5 - n));
            due("of the second", x.about(1, 4), n == 6 ? 14 : 15);
            due("dropped", x.done(0), n);
        }
        ShareKeeper y = withTasks(20, 0, 0, 0);
        y.ask(0, 20, true);
        due("one", y.ask(1, 1, false), 1);
        due("one was dropped", y.about(0, 4), 19);
        due("all that are left", y.ask(1, 19, false), 20);
        due("none is left", y.about(0, 4), 0);
        due("none went", y.count(8), 0);
    }

    /** "the one whose latest TOUCH is the earliest, of these the first" */
    private static void dropByTheEarliestTouch() {
        ShareKeeper x = withTasks(20, 0, 0, 0, 0, 0);
        x.ask(0, 5, true);
        x.ask(1, 5, true);
        x.ask(2, 5, true);
        x.ask(3, 5, false);
        x.ask(3, 1, false);
        due("alike: the first", x.about(0, 4), 4);
        x.run(1);
        x.touch(0);
        x.ask(3, 1, false);
        due("one tick later: the next", x.about(1, 4), 4);
        x.touch(1);
        x.ask(3, 1, false);
        due("the last one", x.about(2, 4), 4);
        x.touch(2);
        x.ask(3, 1, false);
        due("alike again: the first", x.about(0, 4), 3);
        due("others stay", x.about(1, 4) + x.about(2, 4), 8);
    }

    private static void dropItsOwn() {
        ShareKeeper x = withTasks(20, 0, 0);
        x.ask(0, 20, true);
        due("LOOSE for LOOSE", x.ask(0, 20, true), 20);
        due("all were dropped", x.done(0), 20);
        due("LOOSE for KEPT", x.ask(0, 20, false), 20);
        due("none is LOOSE", x.about(0, 4), 0);
        due("it is there", x.about(0, 6), 0);
        due("TOUCH", x.about(0, 7), 1);
    }

    /** "CELLS less LEAST"; "or as it may lose"; "that may lose any" */
    private static void dropAboveLeast() {
        for (int least = 4; least <= 7; least++) {
            ShareKeeper x = withTasks(20, 0, 1, 0, 0);
            x.cellsOf(1, least, -1, -1);
            x.ask(0, 6, true);
            x.run(1);
            x.ask(1, 14, true);
            due("ask", x.ask(2, 3, false), 3);
            due("LEAST " + least, x.about(0, 4), Math.min(6, least));
            due("of the other", x.about(1, 4), 11 + Math.max(0, 6 - least));
            due("dropped", x.done(0), 3);
        }
    }

    /** "(0 at least)": one below its LEAST may lose none. */
    private static void dropWithFewerThanLeast() {
        ShareKeeper x = withTasks(20, 0, 1, 0);
        x.cellsOf(1, 20, -1, -1);
        x.ask(0, 1, true);
        x.worth(1, 5);
        x.ask(1, 19, false);
        due("one goes, it isn't dropped", x.ask(1, 1, false), 20);
        due("dropped", x.done(0), 0);
        due("went", x.gone(0, 0), 0);
    }

    /** "the least of these" */
    private static void dropByTheLeastOfSeveralGroups() {
        // LEAST of the upper one (it has 15), of the lower one (it has 10), what may be lost.
        int[][] leasts = {{8, 8, 2}, {13, 3, 2}, {9, 4, 6}, {10, 4, 5}, {15, 0, 0}, {10, 10, 0}, {16, 9, 0},
            {0, 0, 10}, {5, 0, 10}, {6, 0, 9}};
        for (int[] l : leasts) {
            ShareKeeper x = new ShareKeeper(0, 10, 0);
            x.group(0, 0);
            x.group(1, 0);
            x.task(2);
            x.task(1);
            x.task(0);
            x.cellsOf(1, l[0], -1, -1);
            x.cellsOf(2, l[1], -1, -1);
            x.ask(0, 10, true);
            x.ask(1, 5, false);
            x.run(1);
            x.ask(2, 15, true);
            due("ask", x.ask(2, 10, false), 10);
            due("LEAST " + l[0] + " and " + l[1], x.about(0, 4), 10 - l[2]);
            due("the rest is its own", x.about(2, 4), 5 + l[2]);
        }
    }

    /** "that stands below the PRESSED one": its own LEAST doesn't protect. */
    private static void leastOfThePressedOneDoesNotMatter() {
        ShareKeeper x = withTasks(40, 0, 1, 1);
        x.cellsOf(1, 10, -1, 10);
        x.ask(0, 10, true);
        due("ask", x.ask(1, 10, false), 10);
        due("all were dropped", x.done(0), 10);
        due("none went", x.count(8), 0);
    }

    /** "and in which the TASK that asks isn't"; "without any: all" */
    private static void leastOfTheAskersGroupsDoesNotMatter() {
        ShareKeeper x = withTasks(20, 0, 1, 1, 0);
        x.cellsOf(1, 20, -1, -1);
        x.ask(0, 20, true);
        due("ask", x.ask(1, 20, false), 20);
        due("all were dropped", x.done(0), 20);
        due("none went", x.count(8), 0);
        x.free(1, 20, false);
        x.ask(0, 20, true);
        x.worth(2, 1);
        due("of one outside of it", x.ask(2, 1, false), 1);
        due("none was dropped", x.done(0), 0);
        due("it went", x.gone(0, 0), 0);
    }

    /** "but no more than there is room"; "room for CELLS that are put ASIDE (S)" */
    private static void asideUpToItsRoom() {
        for (int s = 0; s <= 4; s++) {
            ShareKeeper x = withTasks(20, s, 0, 0);
            x.ask(0, 20, false);
            x.worth(1, 1);
            due("ask", x.ask(1, 3, false), 3);
            due("put ASIDE of 3, S " + s, x.done(1), Math.min(s, 3));
            due("went", x.done(2), s < 3 ? 1 : 0);
            due("ASIDE in all", x.count(7), s < 3 ? 0 : 3);
        }
        ShareKeeper y = withTasks(100, 40, 0, 0);
        y.ask(0, 100, false);
        due("all of S", y.ask(1, 40, false), 40);
        due("40 are ASIDE", y.about(0, 5), 40);
        due("none went", y.done(2), 0);
        y.worth(1, 1);
        due("no room any more", y.ask(1, 1, false), 41);
        due("none more was put ASIDE", y.done(1), 0);
        due("one went", y.gone(0, 0), 0);
        due("there is room again", y.count(7), 0);
    }

    /** "that with the most of these .., of these the first" */
    private static void asideOfTheMost() {
        ShareKeeper x = withTasks(30, 40, 0, 0, 0, 0);
        x.ask(0, 9, false);
        x.ask(1, 10, false);
        x.ask(2, 10, false);
        x.ask(3, 1, true);
        due("ask", x.ask(3, 2, true), 2);
        due("its own LOOSE one first", x.done(0), 1);
        due("one more than the first has", x.about(1, 5), 1);
        x.ask(3, 3, true);
        due("now the most", x.about(2, 5), 1);
        due("its own LOOSE ones again", x.done(0), 2);
        x.ask(3, 4, true);
        due("now all alike: the first", x.about(0, 5), 1);
        due("one is enough", x.done(1), 1);
    }

    private static void asideAboveLeast() {
        for (int least = 6; least <= 9; least++) {
            ShareKeeper x = withTasks(20, 40, 1, 0, 0);
            x.cellsOf(1, least, -1, -1);
            x.ask(0, 8, false);
            x.ask(1, 7, false);
            x.ask(2, 5, false);
            due("ask", x.ask(2, 3, false), 8);
            int lost = Math.max(0, 8 - least);
            due("LEAST " + least, x.about(0, 5), lost);
            due("of the next", x.about(1, 5), 3 - lost);
        }
    }

    /** "one thing is done, the first of these that can be: DROP, ASIDE, GO" */
    private static void asideBehindDrop() {
        ShareKeeper x = withTasks(20, 1, 0, 0, 0);
        x.worth(2, 1);
        x.ask(0, 18, false);
        x.ask(1, 2, true);
        due("as many as are LOOSE", x.ask(2, 2, false), 2);
        due("dropped", x.done(0), 2);
        due("put ASIDE", x.done(1), 0);
        due("then ASIDE", x.ask(2, 1, false), 3);
        due("put ASIDE", x.done(1), 1);
        due("went", x.done(2), 0);
        due("then GO", x.ask(2, 1, false), 4);
        due("put ASIDE", x.done(1), 0);
        due("went", x.done(2), 1);
    }

    /** "that with the least WORTH (0 at first)" */
    private static void goByTheLeastWorth() {
        ShareKeeper x = withTasks(20, 0, 0, 0, 0, 0);
        x.worth(0, 1000);
        x.worth(1, 999);
        x.worth(2, 1);
        x.ask(0, 1, false);
        x.ask(1, 10, false);
        x.ask(2, 8, false);
        x.ask(3, 1, false);
        due("the asker has 0", x.ask(3, 1, false), -3);
        due("it went", x.gone(0, 0), 3);
        due("then 1", x.ask(0, 2, false), 3);
        due("it went", x.gone(1, 0), 2);
        due("then 999", x.ask(0, 8, false), 11);
        due("it went", x.gone(2, 0), 1);
        due("then 1000", x.ask(0, 10, false), -3);
        due("all went", x.count(8), 4);
    }

    /** "of these with the most KEPT and LOOSE ones, of these the first one" */
    private static void goByTheMostCells() {
        ShareKeeper x = withTasks(20, 4, 1, 1, 1, 0);
        x.worth(3, 1);
        x.ask(0, 9, false);
        x.ask(3, 15, false);
        due("4 of the first are ASIDE", x.about(0, 5), 4);
        x.free(3, 15, false);
        x.ask(1, 5, false);
        x.ask(2, 6, false);
        x.cellsOf(1, 16, -1, -1);
        x.ask(3, 4, false);
        due("one more", x.ask(3, 1, false), 5);
        due("ASIDE ones don't count: 5, 5, 6", x.gone(0, 0), 2);
        x.cellsOf(1, 10, -1, -1);
        x.ask(3, 5, false);
        due("one more", x.ask(3, 1, false), 11);
        due("alike, 5 and 5: the first", x.gone(1, 0), 0);
        due("two went", x.count(8), 2);
    }

    /** "of the TASKS in the PRESSED one that have KEPT, LOOSE or ASIDE cells" */
    private static void goOfThoseWithCells() {
        ShareKeeper x = withTasks(20, 1, 1, 1, 1, 0, 0);
        x.worth(1, 1);
        x.worth(2, 2);
        x.ask(1, 1, false);
        x.ask(4, 20, false);
        due("one is ASIDE", x.about(1, 5), 1);
        x.free(4, 20, false);
        x.cellsOf(1, 0, -1, 3);
        x.ask(2, 2, true);
        due("4 of TOP 3", x.ask(2, 4, false), -4);
        due("dropped first", x.done(0), 2);
        due("the one with a cell ASIDE goes", x.gone(0, 0), 1);
        due("those without cells don't", x.count(8), 1);
    }

    /** "LEAST doesn't matter." */
    private static void goThoughLeastIsAboveIt() {
        ShareKeeper x = withTasks(20, 40, 1, 0);
        x.cellsOf(1, 20, -1, -1);
        x.worth(1, 1);
        x.ask(0, 20, false);
        due("ask", x.ask(1, 1, false), 1);
        due("put ASIDE", x.done(1), 0);
        due("went", x.done(2), 1);
        due("all are free but one", x.count(6), 19);
    }

    /** "if a WHOLE GROUP in which it is stands below the PRESSED one, or is that: .. the highest of these" */
    private static void wholeGroupsAtThePressedOne() {
        for (int pressed = 1; pressed <= 4; pressed++) {
            ShareKeeper x = new ShareKeeper(0, 80, 0);
            int[] kinds = {0, 2, 0, 2, 0};
            for (int g = 1; g <= 4; g++) {
                x.group(g - 1, kinds[g]);
                x.task(g);
            }
            x.task(4);
            x.worth(4, 3);
            x.ask(3, 10, false);
            x.cellsOf(pressed, 0, -1, 10);
            int[] answers = {0, -3, -3, -3, 1};
            int[] went = {0, 5, 3, 3, 1};
            int[] first = {0, 0, 2, 2, 3};
            due("PRESSED " + pressed, x.ask(4, 1, false), answers[pressed]);
            due("went, " + pressed + " PRESSED", x.done(2), went[pressed]);
            due("the first of them", x.gone(0, 0), first[pressed]);
        }
    }

    /** "(as they went: by numbers)": those that are GONE go no more. */
    private static void wholeGroupsWithGoneOnes() {
        ShareKeeper x = new ShareKeeper(0, 0, 0);
        x.group(0, 2);
        x.group(1, 0);
        x.task(1);
        x.task(2);
        x.task(0);
        x.task(2);
        x.cellsOf(2, 0, -1, 5);
        x.worth(2, 9);
        x.worth(3, 1);
        x.ask(1, 5, false);
        due("one below goes alone", x.ask(3, 5, false), 5);
        due("that", x.gone(0, 0), 1);
        due("all in the WHOLE one", x.ask(2, 16, false), 16);
        due("two more", x.done(2), 2);
        due("by numbers", x.gone(1, 0), 0);
        due("by numbers", x.gone(2, 0), 3);
        due("no more", x.gone(3, 0), -1);
        due("GONE", x.count(8), 3);
    }

    /** "If there is none such: the ASK is refused (-4)" */
    private static void noneLeftToGo() {
        ShareKeeper x = withTasks(20, 5, 1, 1, 0);
        x.cellsOf(1, 0, -1, 4);
        x.ask(2, 9, false);
        x.run(3);
        due("no cells in the PRESSED one", x.ask(0, 5, true), -4);
        due("none went", x.count(8), 0);
        due("TOUCH stays", x.about(0, 7), 0);
        due("it has none", x.about(0, 4), 0);
        due("TOP", x.ask(0, 4, true), 4);
        due("TOUCH", x.about(0, 7), 4);
    }

    /** "but what was done by then stays" */
    private static void whatWasDoneStays() {
        ShareKeeper x = withTasks(20, 2, 1, 1, 1, 0);
        x.cellsOf(1, 0, -1, 10);
        x.ask(1, 4, false);
        x.ask(2, 3, true);
        x.ask(3, 5, true);
        due("11 of TOP 10", x.ask(0, 11, false), -4);
        due("dropped", x.done(0), 3);
        due("put ASIDE", x.done(1), 2);
        due("went", x.done(2), 1);
        due("LOOSE ones are dropped", x.about(2, 4), 0);
        due("that one is there", x.about(2, 6), 0);
        due("the other one is GONE", x.about(1, 6), 1);
        due("who asked", x.gone(0, 2), 0);
        due("others stay", x.about(3, 4), 5);
        due("free", x.count(6), 15);
        due("ASIDE", x.count(7), 0);
        due("the asker has none", x.about(0, 3), 0);
        due("TOUCH stays", x.about(0, 7), 0);
        due("once more: nothing is left to do", x.ask(0, 11, false), -4);
        due("dropped", x.done(0), 0);
        due("went", x.done(2), 0);
    }

    /** "If the TASK that asks is GONE by that, it gets none (-3)." */
    private static void theAskerGoes() {
        ShareKeeper x = withTasks(20, 0, 0, 0);
        x.work(0, 9);
        x.run(2);
        x.ask(0, 10, false);
        x.ask(1, 5, true);
        x.worth(1, 1);
        due("ask", x.ask(0, 11, false), -3);
        due("what was done stays", x.about(1, 4), 0);
        due("dropped", x.done(0), 5);
        due("it is GONE", x.about(0, 6), 1);
        due("it has none", x.about(0, 3), 0);
        due("no WORK", x.about(0, 1), 0);
        due("USED stays", x.about(0, 2), 2);
        due("all are free", x.count(6), 20);
        due("the tick", x.gone(0, 3), 3);
        ShareKeeper y = new ShareKeeper(0, 0, 0);
        y.group(0, 2);
        y.task(1);
        y.task(1);
        y.ask(0, 20, false);
        due("with another, having none itself", y.ask(1, 1, false), -3);
        due("both went", y.count(8), 2);
    }

    /** "-3, -4": of both the first. */
    private static void theAskerGoesAndNoneIsLeft() {
        ShareKeeper x = withTasks(20, 0, 0);
        x.ask(0, 1, false);
        due("more than M of one that goes", x.ask(0, 21, false), -3);
        due("it went", x.count(8), 1);
        ShareKeeper y = withTasks(20, 0, 0, 0);
        y.worth(1, 1);
        y.ask(0, 1, false);
        due("more than M of one without cells", y.ask(1, 21, false), -4);
        due("the other one went", y.gone(0, 0), 0);
        due("it didn't", y.about(1, 6), 0);
    }

    /** "-1: it has not so many, n is below 1. (GONE ones have none.)" */
    private static void freeWhatItHas() {
        ShareKeeper x = withTasks(20, 0, 0, 0);
        due("none to free", x.free(0, 1, false), -1);
        due("none to free", x.free(0, 1, true), -1);
        x.ask(0, 3, false);
        x.ask(0, 5, true);
        CHECKS.range("free KEPT", 1, 3, n -> freeAndAsk(x, n, false));
        CHECKS.range("free LOOSE", 1, 5, n -> freeAndAsk(x, n, true));
        due("0", x.free(0, 0, true), -1);
        due("lowest", x.free(0, LOWEST, false), -1);
        due("highest", x.free(0, HIGHEST, false), -1);
        due("KEPT stay", x.about(0, 3), 3);
        due("LOOSE stay", x.about(0, 4), 5);
        x.run(1);
        due("all but one", x.free(0, 2, false), 1);
        due("TOUCH stays", x.about(0, 7), 1);
        due("the last one", x.free(0, 1, false), 0);
        due("no more", x.free(0, 1, false), -1);
        due("LOOSE stay", x.about(0, 4), 5);
        x.worth(1, 3);
        x.ask(1, 15, false);
        x.free(0, 5, true);
        x.ask(0, 5, false);
        x.ask(1, 1, false);
        due("GONE ones have none", x.free(0, 1, false), -1);
        due("GONE ones have none", x.free(0, 1, true), -1);
    }

    private static long freeAndAsk(ShareKeeper x, int n, boolean loose) {
        long answer = x.free(0, n, loose);
        if (answer >= 0) {
            x.ask(0, n, loose);
        }
        return answer;
    }

    /** "-1 (it has none ASIDE, too)" */
    private static void backOfNoneAndOfOne() {
        ShareKeeper x = withTasks(20, 9, 0, 0);
        due("no cells", x.back(0), -1);
        x.ask(0, 10, false);
        due("none ASIDE", x.back(0), -1);
        due("TOUCH stays", x.about(0, 7), 1);
        x.ask(1, 11, false);
        due("one ASIDE", x.about(0, 5), 1);
        x.free(1, 1, false);
        x.run(1);
        due("one comes back", x.back(0), 10);
        due("TOUCH", x.about(0, 7), 2);
        due("none ASIDE any more", x.back(0), -1);
        due("of the other", x.back(1), -1);
        due("all are in use", x.count(6), 0);
    }

    /** "-3, -4": as by an ASK. */
    private static void backWithoutRoom() {
        ShareKeeper x = withTasks(20, 3, 0, 0);
        x.ask(0, 3, false);
        x.ask(1, 20, false);
        due("3 ASIDE", x.about(0, 5), 3);
        due("no room ASIDE: the one with the most goes", x.back(0), 3);
        due("the other one went", x.gone(0, 0), 1);
        due("none ASIDE", x.count(7), 0);
        ShareKeeper y = withTasks(20, 3, 1, 0, 1);
        y.ask(0, 3, false);
        y.ask(1, 20, false);
        y.cellsOf(1, 0, -1, 2);
        due("above TOP: it goes", y.back(0), -3);
        due("PRESSED", y.gone(0, 1), 1);
        due("its ASIDE ones went", y.count(7), 0);
        due("the other one stays", y.about(1, 3), 20);
        due("done", y.done(2), 1);
    }

    /** "but that they leave ASIDE as that is done" */
    private static void backKeepsItsAsideTillItIsDone() {
        ShareKeeper x = withTasks(20, 5, 0, 0);
        x.worth(1, 1);
        x.ask(0, 5, false);
        x.ask(1, 20, false);
        due("5 ASIDE: no room", x.about(0, 5), 5);
        due("its ASIDE ones leave no room for the other's: it goes", x.back(0), -3);
        due("none was put ASIDE", x.done(1), 0);
        ShareKeeper y = withTasks(20, 6, 0, 0);
        y.ask(0, 5, false);
        y.ask(1, 20, false);
        due("5 ASIDE: room for one", y.about(0, 5), 5);
        y.free(1, 4, false);
        due("one of the other's is put ASIDE", y.back(0), 5);
        due("that one", y.about(1, 5), 1);
        due("in all", y.count(7), 1);
        ShareKeeper z = withTasks(20, 6, 0, 0);
        z.ask(0, 20, false);
        z.ask(1, 5, false);
        due("5 ASIDE, 15 KEPT: room for one", z.about(0, 5), 5);
        z.free(1, 4, false);
        due("5 come back, one of its own is put ASIDE for them", z.back(0), 19);
        due("that one stays there", z.about(0, 5), 1);
        due("put ASIDE", z.done(1), 1);
    }

    /** "Its TOUCH is the tick that is open: the one before." */
    private static void touchOfTheOpenTick() {
        ShareKeeper x = withTasks(20, 0, 0);
        due("0 at first", x.touch(0), 0);
        due("1", x.touch(0), 1);
        x.run(200);
        due("1 still", x.touch(0), 1);
        due("201", x.touch(0), 201);
        x.run(1);
        x.ask(0, 1, true);
        due("by an ASK", x.touch(0), 202);
        due("201 ask is refused", x.run(1) + x.ask(0, 201, true), -1);
        due("a refused ASK sets none", x.about(0, 7), 202);
    }

    /** "GONE TASKS are there, but nothing can be given to them: -1 of work, ask, back, touch, worth" */
    private static void goneTasksGetNothing() {
        ShareKeeper x = withTasks(20, 2, 1, 0);
        x.worth(0, 7);
        x.weight(100, 70);
        x.work(0, 5);
        x.run(2);
        x.ask(0, 2, false);
        x.worth(1, 8);
        x.ask(1, 20, false);
        x.ask(1, 1, false);
        due("it is GONE", x.about(0, 6), 1);
        due("work", x.work(0, 1), -1);
        due("ask", x.ask(0, 1, false), -1);
        due("ask LOOSE", x.ask(0, 1, true), -1);
        due("back", x.back(0), -1);
        due("touch", x.touch(0), -1);
        due("worth", x.worth(0, 1), -1);
        due("free", x.free(0, 1, false), -1);
        int[] about = {1, 0, 2, 0, 0, 0, 1, 3, 0};
        for (int what = 0; what < about.length; what++) {
            due("about(0, " + what + ")", x.about(0, what), about[what]);
        }
        due("weight", x.weight(100, 60), 70);
        due("weight again", x.weight(100, 70), 60);
        due("vtime", x.vtime(100), 28570);
        due("plan", x.plan(0, 200), 2);
        due("keep", x.keep(0, 2, 0), 0);
        due("heft", x.heft(0), 5000);
        due("toss", x.toss(0), -15);
        due("TASKS", x.count(5), 2);
        due("the next TASK has a number of its own", x.task(1), 2);
    }

    /** "Of a TASK: 0 its GROUP, .. 8 whether it would WANT in the tick that is open. -1." */
    private static void aboutAllThatIsThere() {
        ShareKeeper x = withTasks(20, 0, 0);
        CHECKS.range("about what", 0, 8, what -> x.about(0, what));
        for (int what = 0; what <= 8; what++) {
            due("about none", x.about(1, what), -1);
        }
    }

    /** "GONE TASK i, from 0, as they went (what 0) .. (3). -1: none such." */
    private static void goneAsTheyWent() {
        ShareKeeper x = withTasks(20, 0, 0, 0, 1);
        for (int what = 0; what <= 3; what++) {
            due("none went", x.gone(0, what), -1);
        }
        x.worth(1, 5);
        x.worth(2, 6);
        x.ask(1, 5, false);
        x.ask(0, 5, false);
        x.run(9);
        x.ask(2, 20, false);
        due("two went", x.count(8), 2);
        CHECKS.range("GONE i", 0, 1, i -> x.gone(i, 0));
        CHECKS.range("GONE what", 0, 3, what -> x.gone(1, what));
        int[][] facts = {{0, 0, 2, 10}, {1, 0, 2, 10}};
        for (int i = 0; i < 2; i++) {
            for (int what = 0; what <= 3; what++) {
                due("gone(" + i + ", " + what + ")", x.gone(i, what), facts[i][what]);
            }
        }
        due("what none, i none", x.gone(2, 4), -1);
    }

    /** "What the latest ask() or back() that wasn't -1 did .. -1 for others. (0 ahead of any.)" */
    private static void doneOfTheLatest() {
        ShareKeeper x = withTasks(20, 2, 0, 0, 0);
        CHECKS.range("done", 0, 2, what -> x.done(what));
        for (int what = 0; what <= 2; what++) {
            due("ahead of any", x.done(what), 0);
        }
        x.worth(1, 1);
        x.worth(2, 2);
        x.ask(0, 10, false);
        x.ask(0, 3, true);
        x.ask(1, 13, false);
        int[] did = {3, 2, 1};
        for (int what = 0; what <= 2; what++) {
            due("done(" + what + ")", x.done(what), did[what]);
        }
        due("-1 of ask", x.ask(1, 0, false), -1);
        due("-1 of back", x.back(1), -1);
        due("-1 of a GONE one", x.ask(0, 1, false), -1);
        for (int what = 0; what <= 2; what++) {
            due("it stays " + what, x.done(what), did[what]);
        }
        due("-3", x.ask(1, 21, false), -3);
        due("put ASIDE behind -3", x.done(1), 2);
        due("went behind -3", x.done(2), 1);
        due("-4", x.ask(2, 21, false), -4);
        due("put ASIDE behind -4", x.done(1), 0);
        due("went behind -4", x.done(2), 0);
        due("a plain one", x.ask(2, 20, true), 20);
        due("all LOOSE ones dropped", x.ask(2, 20, false) + x.done(0), 40);
    }
}
