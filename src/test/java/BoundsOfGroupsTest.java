/** Boundary cases of what is set of GROUPS, and of their moves: promises 4 to 8 and 17. */
public final class BoundsOfGroupsTest {
    private static final Checks CHECKS = new Checks("BoundsOfGroupsTest");

    private static void due(String call, long got, long want) {
        CHECKS.due(call, got, want);
    }

    public static void main(String[] args) {
        weightsFromOneToAThousand();
        weightsOfAllThatIsThere();
        weightsOfNone();
        weightsCutTheVtime();
        mostUpToForty();
        toSaveUpToAHundred();
        mostOfGroupsThatAreThere();
        mostOfFortyAndOneLess();
        mostOfNone();
        leastHighTopUpToAHundred();
        limitsOfTheRoot();
        limitsOfGroupsThatAreThere();
        leastsOfTheRootsChildren();
        leastsOfAGroupsChildren();
        leastBelowItsChildrens();
        leastsOfGrandchildrenDoNotCount();
        aRefusedLimitSetsNone();
        freezeAllButTheRoot();
        moveGroupsThatAreThere();
        moveIntoItself();
        moveToFiveAndSixBelow();
        moveATallGroup();
        moveTasksSixBelow();
        moveWithLeasts();
        moveUnderTheSameWithLeasts();
        moveToAFloorOfNone();
        moveBillsToTheRoot();
        moveBillsOfAPeriodThatEnded();
        moveIntoAndOutOfASavingGroup();
        lookAtAllThatIsThere();
        lookAtRoom();
        CHECKS.end();
    }

    /** "GROUPS and TASKS have a WEIGHT (1 .. 1000; 100 at first)" */
    private static void weightsFromOneToAThousand() {
        ShareKeeper x = new ShareKeeper(0, 0, 0);
        x.group(0, 0);
        x.task(0);
        CHECKS.range("WEIGHT of a GROUP", 1, 1000, weight -> x.weight(1, weight));
        due("1 came last", x.weight(1, 1000), 1);
        due("1000 is the one before", x.weight(1, 2), 1000);
        CHECKS.range("WEIGHT of a TASK", 1, 1000, weight -> x.weight(100, weight));
        due("1 came last", x.weight(100, 1000), 1);
        due("0 is refused", x.weight(100, 0), -1);
        due("1001 is refused", x.weight(100, 1001), -1);
        due("1000 stayed", x.weight(100, 2), 1000);
        due("the GROUP's stayed", x.weight(1, 3), 2);
    }

    /** "a GROUP, or a TASK (told as 100 and its number)": the last of each. */
    private static void weightsOfAllThatIsThere() {
        ShareKeeper x = new ShareKeeper(0, 0, 0);
        for (int g = 1; g <= 19; g++) {
            due("no GROUP yet", x.weight(g, 5), -1);
            x.group(0, 0);
        }
        for (int t = 0; t <= 31; t++) {
            due("no TASK yet", x.weight(100 + t, 5), -1);
            x.task(0);
        }
        CHECKS.range("WEIGHT of GROUP", 1, 19, which -> x.weight(which, 5));
        CHECKS.range("WEIGHT of TASK", 100, 131, which -> x.weight(which, 5));
        CHECKS.range("VTIME of GROUP", 1, 19, which -> x.vtime(which));
        CHECKS.range("VTIME of TASK", 100, 131, which -> x.vtime(which));
        due("99", x.weight(99, 5), -1);
        due("99", x.vtime(99), -1);
    }

    /** "-1 (of THE ROOT, too)" */
    private static void weightsOfNone() {
        ShareKeeper x = new ShareKeeper(0, 0, 0);
        due("THE ROOT", x.weight(0, 100), -1);
        due("THE ROOT", x.weight(0, 1), -1);
        due("its HEFT stays", x.keep(0, 1, 0) + x.heft(0), 100);
        x.task(0);
        due("a TASK by its number alone", x.weight(1, 5), -1);
        due("below THE ROOT", x.weight(-1, 5), -1);
        due("TASK 0 less 200", x.weight(-100, 5), -1);
    }

    /** "VTIME 1000000 / WEIGHT (cut) more" */
    private static void weightsCutTheVtime() {
        int[][] cuts = {{1, 1000000}, {2, 500000}, {3, 333333}, {7, 142857}, {999, 1001}, {1000, 1000}};
        for (int[] cut : cuts) {
            ShareKeeper x = new ShareKeeper(0, 0, 0);
            x.group(0, 0);
            x.task(1);
            x.weight(1, cut[0]);
            x.weight(100, cut[0]);
            x.work(0, 3);
            x.run(1);
            due("VTIME of a GROUP by " + cut[0], x.vtime(1), cut[1]);
            due("VTIME of a TASK by " + cut[0], x.vtime(100), cut[1]);
            x.run(2);
            due("each tick is cut alone", x.vtime(100), 3L * cut[1]);
        }
    }

    /** "MOST .. (0 .. 40, or none: -1, at first)" */
    private static void mostUpToForty() {
        ShareKeeper x = new ShareKeeper(0, 0, 0);
        x.group(0, 1);
        CHECKS.range("MOST", -1, 40, most -> x.most(1, most, 0));
        due("-1 came last", x.look(1, 4), -2);
        due("40", x.most(1, 40, 0), 0);
        due("ROOM", x.look(1, 4), 40);
        due("41 is refused", x.most(1, 41, 100), -1);
        due("-2 is refused", x.most(1, -2, 100), -1);
        due("ROOM stays", x.look(1, 4), 40);
        x.run(10);
        due("TO SAVE stays", x.look(1, 5), 0);
        due("0", x.most(1, 0, 0), 0);
        due("no ROOM", x.look(1, 4), 0);
    }

    /** "TO SAVE (0 .. 100; 0 at first)" */
    private static void toSaveUpToAHundred() {
        ShareKeeper x = new ShareKeeper(0, 0, 0);
        x.group(0, 1);
        CHECKS.range("TO SAVE", 0, 100, save -> x.most(1, 40, save));
        due("100", x.most(1, 40, 100), 0);
        due("101 is refused", x.most(1, 3, 101), -1);
        due("-1 is refused", x.most(1, 3, -1), -1);
        due("MOST stays", x.look(1, 4), 40);
        int[] saved = {40, 80, 100, 100};
        for (int s : saved) {
            x.run(10);
            due("SAVED", x.look(1, 5), s);
        }
        due("ROOM", x.look(1, 4), 140);
        x.most(1, 40, 99);
        due("within the PERIOD it stays", x.look(1, 5), 100);
        x.run(10);
        due("one less", x.look(1, 5), 99);
        x.most(1, 40, 0);
        x.run(10);
        due("none", x.look(1, 5), 0);
    }

    private static void mostOfGroupsThatAreThere() {
        ShareKeeper x = new ShareKeeper(0, 0, 0);
        x.group(0, 0);
        CHECKS.range("MOST of GROUP", 0, 1, group -> x.most(group, 5, 0));
        due("of THE ROOT too", x.look(0, 4), 5);
    }

    /** "how many ticks its TASKS may do in a PERIOD": 40 is all that four PROCESSORS can do. */
    private static void mostOfFortyAndOneLess() {
        for (int most = 39; most <= 40; most++) {
            ShareKeeper x = new ShareKeeper(3, 0, 0);
            x.group(0, 0);
            for (int t = 0; t < 4; t++) {
                x.task(1);
                x.work(t, 100);
            }
            x.most(1, most, 0);
            due("in a PERIOD", x.run(10), most);
            due("in the next one", x.run(10), most);
            x.most(1, -1, 0);
            due("without MOST", x.run(10), 40);
        }
    }

    private static void mostOfNone() {
        ShareKeeper x = new ShareKeeper(0, 0, 0);
        x.group(0, 0);
        x.task(1);
        x.work(0, 100);
        x.most(1, 0, 0);
        due("MOST 0", x.run(20), 0);
        x.most(1, 1, 0);
        due("MOST 1, two PERIODS", x.run(20), 2);
        x.most(0, 0, 0);
        due("MOST 0 of THE ROOT", x.run(10), 0);
        x.most(0, 1, 0);
        x.most(1, -1, 0);
        due("MOST 1 of THE ROOT", x.run(20), 2);
    }

    /** "LEAST (0 .. 100), HIGH, TOP (-1 .. 100 each)" */
    private static void leastHighTopUpToAHundred() {
        ShareKeeper x = new ShareKeeper(0, 80, 0);
        x.group(0, 0);
        CHECKS.range("LEAST", 0, 100, least -> x.cellsOf(1, least, -1, -1));
        CHECKS.range("HIGH", -1, 100, high -> x.cellsOf(1, 0, high, -1));
        CHECKS.range("TOP", -1, 100, top -> x.cellsOf(1, 0, -1, top));
        due("all at their most", x.cellsOf(1, 100, 100, 100), 0);
        due("all at their least", x.cellsOf(1, 0, -1, -1), 0);
    }

    /** "-1 (of THE ROOT LEAST but 0, TOP but -1, too)" */
    private static void limitsOfTheRoot() {
        ShareKeeper x = new ShareKeeper(0, 0, 0);
        CHECKS.range("LEAST of THE ROOT", 0, 0, least -> x.cellsOf(0, least, -1, -1));
        CHECKS.range("TOP of THE ROOT", -1, -1, top -> x.cellsOf(0, 0, -1, top));
        CHECKS.range("HIGH of THE ROOT", -1, 100, high -> x.cellsOf(0, 0, high, -1));
        due("M as LEAST", x.cellsOf(0, 20, -1, -1), -1);
        due("M as TOP", x.cellsOf(0, 0, -1, 20), -1);
        due("100 as LEAST", x.cellsOf(0, 100, -1, -1), -1);
        due("100 as TOP", x.cellsOf(0, 0, -1, 100), -1);
        x.group(0, 0);
        due("M as LEAST of all below", x.cellsOf(1, 20, -1, -1), 0);
        due("THE ROOT's stays allowed", x.cellsOf(0, 0, 5, -1), 0);
        x.task(0);
        x.work(0, 9);
        x.ask(0, 6, false);
        due("refused", x.cellsOf(0, 1, -1, -1), -1);
        due("HIGH stays: each second tick", x.run(4), 2);
    }

    private static void limitsOfGroupsThatAreThere() {
        ShareKeeper x = new ShareKeeper(0, 0, 0);
        x.group(0, 0);
        x.group(1, 0);
        CHECKS.range("limits of GROUP", 0, 2, group -> x.cellsOf(group, 0, 3, -1));
    }

    /** "-3: the LEASTS of the CHILDREN of a GROUP come to more than its own (THE ROOT has M as LEAST)" */
    private static void leastsOfTheRootsChildren() {
        for (int m = 20; m <= 100; m += 80) {
            ShareKeeper x = new ShareKeeper(0, m - 20, 0);
            x.group(0, 0);
            x.group(0, 0);
            if (m < 100) {
                due("M and 1", x.cellsOf(1, m + 1, -1, -1), -3);
            }
            due("M", x.cellsOf(1, m, -1, -1), 0);
            due("of another 1 more", x.cellsOf(2, 1, -1, -1), -3);
            due("of another none", x.cellsOf(2, 0, -1, -1), 0);
            due("one less", x.cellsOf(1, m - 1, -1, -1), 0);
            due("of another 2", x.cellsOf(2, 2, -1, -1), -3);
            due("of another 1", x.cellsOf(2, 1, -1, -1), 0);
            due("M again", x.cellsOf(1, m, -1, -1), -3);
        }
    }

    private static void leastsOfAGroupsChildren() {
        ShareKeeper x = new ShareKeeper(0, 0, 0);
        x.group(0, 0);
        x.group(1, 0);
        x.group(1, 0);
        due("its own is 0", x.cellsOf(2, 1, -1, -1), -3);
        due("0", x.cellsOf(2, 0, -1, -1), 0);
        x.cellsOf(1, 7, -1, -1);
        due("8 of 7", x.cellsOf(2, 8, -1, -1), -3);
        due("7 of 7", x.cellsOf(2, 7, -1, -1), 0);
        due("1 and 7 of 7", x.cellsOf(3, 1, -1, -1), -3);
        due("4 of 7", x.cellsOf(2, 4, -1, -1), 0);
        due("4 and 4 of 7", x.cellsOf(3, 4, -1, -1), -3);
        due("3 and 4 of 7", x.cellsOf(3, 3, -1, -1), 0);
    }

    private static void leastBelowItsChildrens() {
        ShareKeeper x = new ShareKeeper(0, 0, 0);
        x.group(0, 0);
        x.group(1, 0);
        x.group(1, 0);
        x.cellsOf(1, 9, -1, -1);
        x.cellsOf(2, 4, -1, -1);
        x.cellsOf(3, 2, -1, -1);
        due("5 above 4 and 2", x.cellsOf(1, 5, -1, -1), -3);
        due("0 above 4 and 2", x.cellsOf(1, 0, -1, -1), -3);
        due("6 above 4 and 2", x.cellsOf(1, 6, -1, -1), 0);
        due("20, M, above them", x.cellsOf(1, 20, -1, -1), 0);
    }

    private static void leastsOfGrandchildrenDoNotCount() {
        ShareKeeper x = new ShareKeeper(0, 0, 0);
        x.group(0, 0);
        x.group(1, 0);
        x.group(2, 0);
        x.group(0, 0);
        x.cellsOf(1, 10, -1, -1);
        x.cellsOf(2, 10, -1, -1);
        due("10 in 10 in 10", x.cellsOf(3, 10, -1, -1), 0);
        due("the rest of M", x.cellsOf(4, 10, -1, -1), 0);
        due("one more than M", x.cellsOf(4, 11, -1, -1), -3);
    }

    private static void aRefusedLimitSetsNone() {
        ShareKeeper x = new ShareKeeper(0, 0, 0);
        x.group(0, 0);
        x.group(1, 0);
        x.task(1);
        x.cellsOf(1, 6, -1, 15);
        x.work(0, 20);
        due("-3", x.cellsOf(1, 21, 0, 3), -3);
        due("-1 by LEAST", x.cellsOf(1, 101, 0, 3), -1);
        due("-1 by HIGH", x.cellsOf(1, 1, 101, 3), -1);
        due("-1 by TOP", x.cellsOf(1, 1, 0, 101), -1);
        due("-1 ahead of -3", x.cellsOf(1, 21, 0, 101), -1);
        due("-1 ahead of -3", x.cellsOf(1, 21, -2, 3), -1);
        due("TOP stays", x.ask(0, 15, false), 15);
        due("HIGH stays", x.run(3), 3);
        due("LEAST stays", x.cellsOf(2, 6, -1, -1), 0);
        due("LEAST stays", x.cellsOf(2, 7, -1, -1), -3);
    }

    /** "-1 (THE ROOT)" */
    private static void freezeAllButTheRoot() {
        ShareKeeper x = new ShareKeeper(0, 0, 0);
        due("a GROUP that isn't there", x.freeze(1, true), -1);
        x.group(0, 0);
        x.group(0, 0);
        CHECKS.range("freeze", 1, 2, group -> x.freeze(group, true));
        CHECKS.range("thaw", 1, 2, group -> x.freeze(group, false));
        x.task(0);
        x.work(0, 1);
        due("THE ROOT", x.freeze(0, true), -1);
        due("is not FROZEN", x.look(0, 9), 0);
        due("its TASK runs", x.run(1), 1);
        due("was not", x.freeze(1, false), 0);
        due("was not", x.freeze(1, true), 0);
        due("was", x.freeze(1, true), 1);
        due("was", x.freeze(1, false), 1);
        due("the other one was not", x.freeze(2, false), 0);
    }

    /** "A GROUP (not THE ROOT) goes under another one" */
    private static void moveGroupsThatAreThere() {
        ShareKeeper x = new ShareKeeper(0, 0, 0);
        x.group(0, 0);
        x.group(0, 0);
        x.group(0, 0);
        CHECKS.range("move GROUP", 2, 3, group -> x.move(group, 1));
        CHECKS.range("move under", 0, 2, under -> x.move(3, under));
        due("THE ROOT", x.move(0, 1), -1);
        due("THE ROOT under itself", x.move(0, 0), -1);
        due("none under none", x.move(4, 4), -1);
        due("GROUPS stay", x.count(4), 4);
    }

    /** "that isn't in it": IN a GROUP is itself, too. */
    private static void moveIntoItself() {
        ShareKeeper x = new ShareKeeper(0, 0, 0);
        x.group(0, 0);
        x.group(1, 0);
        x.group(2, 0);
        x.group(0, 0);
        due("under itself", x.move(1, 1), -1);
        due("under its CHILD", x.move(1, 2), -1);
        due("under its CHILD's", x.move(1, 3), -1);
        due("above stays", x.look(1, 1), 0);
        due("under one beside it", x.move(1, 4), 0);
        due("under what is in it now", x.move(4, 3), -1);
        due("out of it", x.move(3, 0), 0);
        due("which isn't in it any more", x.move(4, 3), 0);
        due("how far", x.look(2, 8), 4);
    }

    /** "-1 (what is in it would be six below THE ROOT, too)" */
    private static void moveToFiveAndSixBelow() {
        ShareKeeper x = new ShareKeeper(0, 0, 0);
        for (int g = 1; g <= 5; g++) {
            x.group(g - 1, 0);
        }
        x.group(0, 0);
        due("six below", x.move(6, 5), -1);
        due("it stays", x.look(6, 1), 0);
        due("how far", x.look(6, 8), 1);
        due("five below", x.move(6, 4), 0);
        due("how far", x.look(6, 8), 5);
        due("five below still", x.move(6, 4), 0);
        due("beside it", x.move(6, 5), -1);
        due("five below stays", x.look(6, 8), 5);
    }

    private static void moveATallGroup() {
        ShareKeeper x = new ShareKeeper(0, 0, 0);
        x.group(0, 0);
        x.group(1, 0);
        x.group(0, 0);
        x.group(3, 0);
        x.group(4, 0);
        x.group(3, 0);
        due("its lowest five below", x.move(3, 2), 0);
        int[] depths = {0, 1, 2, 3, 4, 5, 4};
        for (int g = 0; g < depths.length; g++) {
            due("how far is " + g, x.look(g, 8), depths[g]);
        }
        x.move(3, 0);
        x.group(2, 0);
        due("its lowest six below", x.move(3, 7), -1);
        int[] back = {0, 1, 2, 1, 2, 3, 2, 3};
        for (int g = 0; g < back.length; g++) {
            due("how far is " + g, x.look(g, 8), back[g]);
        }
        due("without its lowest", x.move(5, 0), 0);
        due("five below", x.move(3, 7), 0);
        due("the lowest", x.look(4, 8), 5);
    }

    /** TASKS are no GROUPS: they may stand under one that is five below. */
    private static void moveTasksSixBelow() {
        ShareKeeper x = new ShareKeeper(0, 0, 0);
        for (int g = 1; g <= 4; g++) {
            x.group(g - 1, 0);
        }
        x.group(0, 0);
        x.task(5);
        due("move", x.move(5, 4), 0);
        due("the TASK is in all of them", x.look(1, 7), 1);
    }

    /** "-3 as cellsOf()" */
    private static void moveWithLeasts() {
        ShareKeeper x = new ShareKeeper(0, 0, 0);
        x.group(0, 0);
        x.group(0, 0);
        x.group(0, 0);
        x.cellsOf(1, 10, -1, -1);
        x.cellsOf(2, 5, -1, -1);
        due("LEAST 5 under LEAST 0", x.move(2, 3), -3);
        due("it stays", x.look(2, 1), 0);
        x.cellsOf(3, 4, -1, -1);
        due("LEAST 5 under LEAST 4", x.move(2, 3), -3);
        x.cellsOf(3, 5, -1, -1);
        due("LEAST 5 under LEAST 5", x.move(2, 3), 0);
        due("LEAST 5 under LEAST 10", x.move(2, 1), 0);
        due("LEAST 5 beside it", x.move(3, 1), 0);
        x.group(1, 0);
        due("LEAST 1 beside them", x.cellsOf(4, 1, -1, -1), -3);
        x.group(0, 0);
        due("LEAST 10 is left of M", x.cellsOf(5, 10, -1, -1), 0);
        due("LEAST 5 more than M", x.move(2, 0), -3);
        due("LEAST 5 stays", x.look(2, 1), 1);
        x.cellsOf(5, 5, -1, -1);
        due("LEAST 5 to M", x.move(2, 0), 0);
        due("under what is in it: -1 ahead of -3", x.move(1, 3), -1);
        sixBelowIsAheadOfLeasts();
    }

    private static void sixBelowIsAheadOfLeasts() {
        ShareKeeper x = new ShareKeeper(0, 0, 0);
        for (int g = 1; g <= 5; g++) {
            x.group(g - 1, 0);
        }
        x.group(0, 0);
        x.cellsOf(6, 1, -1, -1);
        due("six below, LEAST too much", x.move(6, 5), -1);
        due("five below, LEAST too much", x.move(6, 4), -3);
        x.cellsOf(6, 0, -1, -1);
        due("five below", x.move(6, 4), 0);
    }

    /** "(the one it stands under, too)": its LEAST counts once. */
    private static void moveUnderTheSameWithLeasts() {
        ShareKeeper x = new ShareKeeper(0, 0, 0);
        x.group(0, 0);
        x.group(1, 0);
        x.cellsOf(1, 20, -1, -1);
        x.cellsOf(2, 20, -1, -1);
        due("M under THE ROOT", x.move(1, 0), 0);
        due("all of it under the same", x.move(2, 1), 0);
    }

    /** "its VTIME becomes FLOOR there"; "FLOOR .. (0 at first)" */
    private static void moveToAFloorOfNone() {
        ShareKeeper x = new ShareKeeper(0, 0, 0);
        x.group(0, 0);
        x.group(0, 0);
        x.task(1);
        x.work(0, 9);
        x.run(4);
        due("VTIME", x.vtime(1), 40000);
        due("where none was chosen", x.move(1, 2), 0);
        due("0", x.vtime(1), 0);
        x.run(1);
        due("a tick", x.vtime(1), 10000);
        due("to where one was", x.move(1, 0), 0);
        due("GROUP 2 was chosen last, lifted from 0 to 30000", x.vtime(1), 30000);
    }

    /** "what its TASKS USED leaves the GROUPS above it and comes to those that are above it now" */
    private static void moveBillsToTheRoot() {
        ShareKeeper x = new ShareKeeper(0, 0, 0);
        for (int g = 1; g <= 3; g++) {
            x.group(g - 1, 0);
        }
        x.task(3);
        x.task(2);
        x.work(0, 3);
        x.work(1, 2);
        x.run(5);
        due("to the top", x.move(3, 0), 0);
        int[] used = {5, 2, 2, 3};
        for (int g = 0; g < used.length; g++) {
            due("USED of " + g, x.look(g, 2), used[g]);
            due("in this PERIOD of " + g, x.look(g, 3), used[g]);
        }
        due("down again", x.move(3, 2), 0);
        int[] again = {5, 5, 5, 3};
        for (int g = 0; g < again.length; g++) {
            due("USED of " + g, x.look(g, 2), again[g]);
            due("in this PERIOD of " + g, x.look(g, 3), again[g]);
        }
    }

    /** "(what was done in this PERIOD likewise)": nothing of an earlier one. */
    private static void moveBillsOfAPeriodThatEnded() {
        ShareKeeper x = new ShareKeeper(0, 0, 0);
        x.group(0, 0);
        x.group(0, 0);
        x.group(1, 0);
        x.task(3);
        x.work(0, 10);
        x.most(2, 4, 0);
        x.run(10);
        x.move(3, 2);
        due("USED", x.look(2, 2), 10);
        due("none in this PERIOD", x.look(2, 3), 0);
        due("ROOM", x.look(2, 4), 4);
        x.move(3, 1);
        x.work(0, 6);
        x.run(6);
        x.move(3, 2);
        due("6 in this PERIOD", x.look(2, 3), 6);
        due("ROOM is 0 at least", x.look(2, 4), 0);
        due("of the other", x.look(1, 3), 0);
    }

    /** What came by a move is less SAVED (0 at least), what left is more. */
    private static void moveIntoAndOutOfASavingGroup() {
        for (int done = 4; done <= 6; done++) {
            ShareKeeper x = new ShareKeeper(0, 0, 0);
            x.group(0, 1);
            x.group(0, 0);
            x.task(2);
            x.most(1, 5, 9);
            x.work(0, done);
            x.run(9);
            x.move(2, 1);
            x.run(1);
            due(done + " came, SAVED", x.look(1, 5), Math.max(0, 5 - done));
            ShareKeeper y = new ShareKeeper(0, 0, 0);
            y.group(0, 1);
            y.group(1, 0);
            y.task(2);
            y.most(1, 6, 9);
            y.work(0, done);
            y.run(9);
            due(done + " are done, ROOM", y.look(1, 4), 6 - done);
            y.move(2, 0);
            due(done + " left, ROOM", y.look(1, 4), 6);
            y.run(1);
            due(done + " left, SAVED", y.look(1, 5), 6);
        }
    }

    /** "Of a GROUP: 0 KIND, .. 9 whether it is FROZEN. -1." */
    private static void lookAtAllThatIsThere() {
        ShareKeeper x = new ShareKeeper(0, 0, 0);
        due("a GROUP that isn't there", x.look(1, 0), -1);
        x.group(0, 0);
        CHECKS.range("look at GROUP", 0, 1, group -> x.look(group, 8));
        CHECKS.range("look at what", 0, 9, what -> x.look(1, what));
        for (int what = 0; what <= 9; what++) {
            due("look at " + what + " of none", x.look(2, what), -1);
        }
    }

    /** "4 ROOM (-2: no MOST)"; "7 how many TASKS are in it that aren't GONE" */
    private static void lookAtRoom() {
        ShareKeeper x = new ShareKeeper(0, 0, 0);
        x.group(0, 0);
        x.task(1);
        due("no MOST", x.look(1, 4), -2);
        x.most(1, 2, 0);
        x.work(0, 9);
        x.run(1);
        due("1 is left", x.look(1, 4), 1);
        x.run(1);
        due("none is left", x.look(1, 4), 0);
        x.most(1, 1, 0);
        due("0 at least", x.look(1, 4), 0);
        x.most(1, -1, 0);
        due("no MOST again", x.look(1, 4), -2);
        due("one TASK", x.look(1, 7), 1);
        x.ask(0, 20, false);
        x.ask(0, 1, false);
        due("it is GONE", x.look(1, 7), 0);
        due("in THE ROOT", x.look(0, 7), 0);
    }
}
