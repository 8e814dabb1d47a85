/** Boundary cases of IMAGES and SHELVES: promises 25, 26, 28 to 33. */
public final class BoundsOfShelvesTest {
    private static final int LOWEST = Integer.MIN_VALUE;
    private static final int HIGHEST = Integer.MAX_VALUE;
    private static final Checks CHECKS = new Checks("BoundsOfShelvesTest");

    private static void due(String call, long got, long want) {
        CHECKS.due(call, got, want);
    }

    public static void main(String[] args) {
        restoreWithoutAnImage();
        anImageOfNothing();
        anImageOfAFullHouse();
        theImageStays();
        theImageBeforeGoes();
        shelvesAndDoneAreNotInTheImage();
        shelvesFromZeroToSeven();
        shelvesHoldNothingAtFirst();
        keepWhatIsThere();
        keepGroupsAndTasksThatAreThere();
        keepNothingWhateverTheOthersAre();
        keepShortsOfNoTaskToTwentyOne();
        keepBooleansOfNoTaskToThirtyTwo();
        keepAsItIsWhenItComes();
        makeRowsOfNoneToSixty();
        makeRowsOfKinds();
        makeBelowZeroIsBehindNoSuch();
        elementsFromZeroToTheLast();
        elementsOfNoShelf();
        elementsOfNoRow();
        copyToTheEnds();
        copyBelowZero();
        copyNone();
        copyWrapsNowhere();
        copyOntoItself();
        copyLeavesTheOthers();
        copyRefusalsInOrder();
        heftOfEachKind();
        heftAtItsEnds();
        tossOfEachKind();
        CHECKS.end();
    }

    /** "-2: there is none." */
    private static void restoreWithoutAnImage() {
        ShareKeeper x = new ShareKeeper(0, 0, 0);
        due("none", x.restore(), -2);
        x.task(0);
        x.work(0, 5);
        x.run(3);
        due("none", x.restore(), -2);
        due("nothing changed", x.about(0, 1), 2);
        due("the tick stays", x.count(0), 4);
        due("image", x.image(), 4);
        due("restore", x.restore(), 4);
    }

    private static void anImageOfNothing() {
        ShareKeeper x = new ShareKeeper(0, 0, 5);
        due("of a new object", x.image(), 1);
        x.group(0, 1);
        x.task(1);
        x.work(0, 50);
        x.ask(0, 20, false);
        x.ask(0, 1, false);
        x.run(30);
        x.most(0, 3, 3);
        x.cellsOf(0, 0, 3, -1);
        due("restore", x.restore(), 1);
        int[] counts = {1, 1, 20, 5, 1, 0, 20, 0, 0};
        for (int what = 0; what < counts.length; what++) {
            due("count(" + what + ")", x.count(what), counts[what]);
        }
        due("none went", x.gone(0, 0), -1);
        due("no MOST of THE ROOT", x.look(0, 4), -2);
        due("USED of THE ROOT", x.look(0, 2), 0);
        due("no closed tick", x.pressed(0, false, 30), 0);
        due("no tick", x.who(0), -2);
        x.task(0);
        x.ask(0, 5, false);
        x.work(0, 5);
        due("no HIGH of THE ROOT", x.run(2), 2);
    }

    private static void anImageOfAFullHouse() {
        ShareKeeper x = new ShareKeeper(3, 80, 40);
        for (int g = 1; g <= 19; g++) {
            x.group(0, 2);
        }
        for (int t = 0; t <= 31; t++) {
            x.task(t % 20);
            x.ask(t, 3, false);
        }
        due("image", x.image(), 1);
        x.ask(19, 5, true);
        x.work(31, 2);
        x.run(1);
        due("restore", x.restore(), 1);
        due("GROUPS", x.count(4), 20);
        due("TASKS", x.count(5), 32);
        due("KEPT of the last", x.about(31, 3), 3);
        due("WORK of the last", x.about(31, 1), 0);
        due("LOOSE", x.about(19, 4), 0);
        due("the last GROUP's KIND", x.look(19, 0), 2);
        due("no room for GROUPS", x.group(0, 0), -2);
        due("no room for TASKS", x.task(0), -2);
    }

    /** "All is as the IMAGE has it, which stays" */
    private static void theImageStays() {
        ShareKeeper x = new ShareKeeper(0, 0, 0);
        x.task(0);
        x.work(0, 100);
        x.run(4);
        x.image();
        for (int i = 0; i < 3; i++) {
            x.run(10 + i);
            x.work(0, 7);
            due("restore", x.restore(), 5);
            due("WORK", x.about(0, 1), 96);
            due("VTIME", x.vtime(100), 40000);
        }
        due("what comes after doesn't reach it", x.work(0, 1), 97);
        due("restore", x.restore(), 5);
        due("WORK", x.about(0, 1), 96);
    }

    /** "the one before goes" */
    private static void theImageBeforeGoes() {
        ShareKeeper x = new ShareKeeper(0, 0, 0);
        x.image();
        x.group(0, 0);
        x.run(1);
        due("image", x.image(), 2);
        x.group(0, 0);
        due("restore", x.restore(), 2);
        due("GROUPS", x.count(4), 2);
        due("restore again", x.restore(), 2);
        due("GROUPS again", x.count(4), 2);
    }

    /** "An IMAGE of all (but SHELVES, done())" */
    private static void shelvesAndDoneAreNotInTheImage() {
        ShareKeeper x = new ShareKeeper(0, 0, 0);
        x.task(0);
        x.ask(0, 20, true);
        x.make(0, 3, 2);
        x.image();
        x.keep(0, 2, 0);
        x.keep(7, 1, 0);
        x.ask(0, 4, false);
        x.restore();
        due("SHELF 0", x.heft(0), 5000);
        due("SHELF 7", x.heft(7), 100);
        due("done", x.done(0), 4);
        due("but the cells are back", x.about(0, 4), 20);
        x.task(0);
        x.keep(1, 2, 1);
        x.restore();
        due("of a TASK that isn't there any more", x.heft(1), 5000);
        due("it isn't", x.about(1, 0), -1);
    }

    /** "SHELVES 0 .. 7" */
    private static void shelvesFromZeroToSeven() {
        ShareKeeper x = new ShareKeeper(0, 0, 0);
        x.task(0);
        for (int what = 0; what <= 4; what++) {
            int kept = what;
            CHECKS.range("keep " + what + " on", 0, 7, d -> x.keep(d, kept, 0));
        }
        CHECKS.range("make shorts on", 0, 7, d -> x.make(d, 3, 5));
        CHECKS.range("copy from", 0, 7, d -> x.copy(d, 0, 0, 0, 1));
        CHECKS.range("copy to", 0, 7, e -> x.copy(7, 0, e, 0, 1));
        CHECKS.range("make booleans on", 0, 7, d -> x.make(d, 4, 5));
        CHECKS.range("make of -1 on", 0, 7, d -> x.make(d, 4, -1));
        CHECKS.range("heft of", 0, 7, d -> x.heft(d));
        CHECKS.range("toss of", 0, 7, d -> x.toss(d));
        due("the last one has its own", x.keep(7, 1, 0) + x.heft(7), 100);
        due("the first one stays", x.heft(0), -12);
    }

    /** "each hold nothing (at first)"; "-11 nothing is held where something is wanted" */
    private static void shelvesHoldNothingAtFirst() {
        ShareKeeper x = new ShareKeeper(0, 0, 0);
        for (int d = 0; d <= 7; d++) {
            due("heft(" + d + ")", x.heft(d), -11);
            due("toss(" + d + ")", x.toss(d), -11);
            due("copy within " + d, x.copy(d, 0, d, 0, 0), -11);
            CHECKS.elementThrows(x, d, 0, 2);
        }
        x.keep(3, 0, 0);
        due("nothing is kept", x.heft(3), -11);
    }

    /** "what = 0 nothing ..; 1 GROUP k; 2 TASK k; 3 ..; 4 ..: 0. -1." */
    private static void keepWhatIsThere() {
        ShareKeeper x = new ShareKeeper(0, 0, 0);
        x.task(0);
        CHECKS.range("keep what", 0, 4, what -> x.keep(0, what, 0));
        x.keep(0, 2, 0);
        due("refused", x.keep(0, 5, 0), -1);
        due("refused", x.keep(0, -1, 0), -1);
        due("it stays", x.heft(0), 5000);
    }

    private static void keepGroupsAndTasksThatAreThere() {
        ShareKeeper x = new ShareKeeper(0, 0, 0);
        due("no TASK", x.keep(0, 2, 0), -1);
        due("no GROUP", x.keep(0, 1, 1), -1);
        x.group(0, 0);
        x.task(0);
        x.task(0);
        x.task(0);
        CHECKS.range("keep GROUP", 0, 1, k -> x.keep(0, 1, k));
        CHECKS.range("keep TASK", 0, 2, k -> x.keep(1, 2, k));
        due("TASK by 100", x.keep(1, 2, 100), -1);
        due("THE ROOT came last", x.heft(0), 100);
    }

    /** "0 nothing (the others do not matter)" */
    private static void keepNothingWhateverTheOthersAre() {
        ShareKeeper x = new ShareKeeper(0, 0, 0);
        int[] others = {LOWEST, -1, 0, 1, 99, HIGHEST};
        for (int k : others) {
            x.make(2, 3, 1);
            due("nothing, k " + k, x.keep(2, 0, k), 0);
            due("nothing is held", x.heft(2), -11);
            due("shorts, k " + k, x.keep(2, 3, k), 0);
            due("booleans, k " + k, x.keep(2, 4, k), 0);
        }
        due("but a SHELF it must be", x.keep(8, 0, 0), -1);
    }

    private static int size(ShareKeeper x, int d) {
        for (int i = 0; i < 100; i++) {
            try {
                x.element(d, i);
            } catch (IllegalStateException e) {
                return i;
            }
        }
        return 100;
    }

    /** "for each TASK KEPT, LOOSE, ASIDE, one behind the other (of the first 20)" */
    private static void keepShortsOfNoTaskToTwentyOne() {
        int[][] sizes = {{0, 0}, {1, 3}, {2, 6}, {19, 57}, {20, 60}, {21, 60}, {32, 60}};
        for (int[] s : sizes) {
            ShareKeeper x = new ShareKeeper(0, 80, 1);
            for (int t = 0; t < s[0]; t++) {
                x.task(0);
                x.ask(t, 1, false);
                x.ask(t, 2, true);
            }
            due("keep", x.keep(0, 3, 0), 0);
            due("places of " + s[0] + " TASKS", size(x, 0), s[1]);
            for (int i = 0; i < s[1]; i++) {
                due("element " + i, x.element(0, i), i % 3 == 0 ? 1 : i % 3 == 1 ? 2 : 0);
            }
        }
        ShareKeeper y = new ShareKeeper(0, 80, 40);
        for (int t = 0; t <= 20; t++) {
            y.task(0);
        }
        y.ask(19, 100, false);
        y.ask(20, 40, false);
        y.keep(0, 3, 0);
        due("KEPT of TASK 19", y.element(0, 57), 60);
        due("ASIDE of TASK 19, the last place", y.element(0, 59), 40);
        due("TASK 20 is not in it", size(y, 0), 60);
    }

    /** "of each TASK whether it is GONE" */
    private static void keepBooleansOfNoTaskToThirtyTwo() {
        for (int tasks = 0; tasks <= 32; tasks += 16) {
            ShareKeeper x = new ShareKeeper(0, 0, 0);
            for (int t = 0; t < tasks; t++) {
                x.task(0);
            }
            if (tasks > 0) {
                x.ask(tasks - 1, 20, false);
                due("the last one goes", x.ask(tasks - 1, 1, false), -3);
            }
            due("keep", x.keep(0, 4, 0), 0);
            due("places", size(x, 0), tasks);
            for (int t = 0; t < tasks; t++) {
                due("GONE " + t, x.element(0, t), t == tasks - 1 ? 1 : 0);
            }
        }
    }

    /** "a GROUP or a TASK (as it is when it comes there)" */
    private static void keepAsItIsWhenItComes() {
        ShareKeeper x = new ShareKeeper(0, 0, 0);
        x.group(0, 1);
        x.group(0, 0);
        x.task(1);
        x.most(1, 5, 5);
        x.keep(0, 1, 1);
        x.keep(1, 2, 0);
        x.keep(2, 3, 0);
        x.keep(3, 4, 0);
        x.run(10);
        x.move(1, 2);
        x.weight(1, 1000);
        x.ask(0, 20, false);
        due("the GROUP", x.heft(0), 111);
        due("the TASK", x.heft(1), 5000);
        due("the shorts", x.element(2, 0), 0);
        x.ask(0, 1, false);
        due("the booleans", x.element(3, 0), 0);
        x.keep(0, 1, 1);
        due("the GROUP now", x.heft(0), 1 + 20 + 1000 + 5);
    }

    /** "SHELF d gets a ROW of n shorts, or booleans (false), 0 (.. n up to 60)" */
    private static void makeRowsOfNoneToSixty() {
        ShareKeeper x = new ShareKeeper(0, 0, 0);
        int[] sizes = {0, 1, 59, 60};
        for (int n : sizes) {
            for (int what = 3; what <= 4; what++) {
                due("make " + n, x.make(0, what, n), 0);
                due("places", size(x, 0), n);
            }
        }
        int[] tooLarge = {61, 62, 1000, HIGHEST};
        for (int n : tooLarge) {
            due("shorts " + n, x.make(0, 3, n), -1);
            due("booleans " + n, x.make(0, 4, n), -1);
        }
        int[] belowZero = {-1, -2, -60, LOWEST};
        for (int n : belowZero) {
            due("shorts " + n, x.make(0, 3, n), -14);
            due("booleans " + n, x.make(0, 4, n), -14);
        }
        due("what was there stays", size(x, 0), 60);
        due("it is a ROW of booleans", x.copy(0, 0, 0, 0, 60), 60);
        x.make(1, 3, 60);
        due("not of shorts", x.copy(0, 0, 1, 0, 60), -12);
        for (int i = 0; i < 60; i++) {
            due("0", x.element(0, i) + x.element(1, i), 0);
        }
    }

    /** "(what 3, 4 ..)" */
    private static void makeRowsOfKinds() {
        ShareKeeper x = new ShareKeeper(0, 0, 0);
        CHECKS.range("make what", 3, 4, what -> x.make(0, what, 1));
        for (int what = 0; what <= 2; what++) {
            due("make what " + what, x.make(1, what, 1), -1);
        }
        due("nothing came", x.heft(1), -11);
    }

    /** "-1; -14: n is below 0": -1 is the first one. */
    private static void makeBelowZeroIsBehindNoSuch() {
        ShareKeeper x = new ShareKeeper(0, 0, 0);
        due("no such kind", x.make(0, 2, -1), -1);
        due("no such kind", x.make(0, 5, LOWEST), -1);
        due("no such SHELF", x.make(8, 3, -1), -1);
        due("no such SHELF", x.make(-1, 4, LOWEST), -1);
        due("both are there", x.make(7, 4, -1), -14);
    }

    /** "Element i, from 0, .. (booleans 1, 0)"; "or has no such place" */
    private static void elementsFromZeroToTheLast() {
        ShareKeeper x = new ShareKeeper(0, 0, 0);
        int[] sizes = {0, 1, 2, 60};
        for (int n : sizes) {
            for (int what = 3; what <= 4; what++) {
                x.make(5, what, n);
                CHECKS.elementThrows(x, 5, -1, 2);
                CHECKS.elementThrows(x, 5, n, 2);
                CHECKS.elementThrows(x, 5, LOWEST, 2);
                CHECKS.elementThrows(x, 5, HIGHEST, 2);
                CHECKS.elementThrows(x, 5, 0, n > 0 ? 0 : 2);
                CHECKS.elementThrows(x, 5, n - 1, n > 0 ? 0 : 2);
            }
        }
        x.task(0);
        x.task(0);
        x.ask(1, 20, false);
        x.ask(1, 1, false);
        x.keep(5, 4, 0);
        due("false", x.element(5, 0), 0);
        due("true", x.element(5, 1), 1);
    }

    /** "IllegalArgumentException: no such SHELF": ahead of what the SHELF holds. */
    private static void elementsOfNoShelf() {
        ShareKeeper x = new ShareKeeper(0, 0, 0);
        int[] none = {LOWEST, -1, 8, HIGHEST};
        for (int d : none) {
            CHECKS.elementThrows(x, d, 0, 1);
            CHECKS.elementThrows(x, d, -1, 1);
            CHECKS.elementThrows(x, d, HIGHEST, 1);
        }
        x.make(0, 3, 1);
        x.make(7, 3, 1);
        CHECKS.elementThrows(x, 0, 0, 0);
        CHECKS.elementThrows(x, 7, 0, 0);
    }

    /** "IllegalStateException: nothing is held, it is no ROW" */
    private static void elementsOfNoRow() {
        ShareKeeper x = new ShareKeeper(0, 0, 0);
        x.task(0);
        CHECKS.elementThrows(x, 0, 0, 2);
        x.keep(0, 1, 0);
        CHECKS.elementThrows(x, 0, 0, 2);
        CHECKS.elementThrows(x, 0, -1, 2);
        x.keep(0, 2, 0);
        CHECKS.elementThrows(x, 0, 0, 2);
        x.keep(0, 0, 0);
        CHECKS.elementThrows(x, 0, 0, 2);
    }

    /** SHELF 0 holds shorts 1 0 0 2 0 0, SHELF 1 seven of them, SHELF 2 nine. */
    private static ShareKeeper withRows() {
        ShareKeeper x = new ShareKeeper(0, 0, 0);
        x.task(0);
        x.task(0);
        x.ask(0, 1, false);
        x.ask(1, 2, false);
        x.keep(0, 3, 0);
        x.make(1, 3, 7);
        x.make(2, 3, 9);
        return x;
    }

    private static String row(ShareKeeper x, int d) {
        StringBuilder text = new StringBuilder();
        int n = size(x, d);
        for (int i = 0; i < n; i++) {
            text.append(x.element(d, i));
        }
        return text.toString();
    }

    private static void same(String what, String got, String want) {
        due(what + ": " + got + ", due is " + want, got.equals(want) ? 1 : 0, 1);
    }

    /** "-13: n, i or j is .. beyond either's end" */
    private static void copyToTheEnds() {
        ShareKeeper x = withRows();
        due("all of it", x.copy(0, 0, 1, 0, 6), 6);
        same("came", row(x, 1), "1002000");
        due("to the end", x.copy(0, 0, 1, 1, 6), 6);
        same("came", row(x, 1), "1100200");
        due("one beyond that end", x.copy(0, 0, 1, 2, 6), -13);
        due("one beyond its own end", x.copy(0, 1, 2, 0, 6), -13);
        due("seven of six", x.copy(0, 0, 2, 0, 7), -13);
        due("eight to seven", x.copy(2, 0, 1, 0, 8), -13);
        same("nothing came", row(x, 1), "1100200");
        same("nothing came", row(x, 2), "000000000");
        due("the last one to the last place", x.copy(0, 3, 2, 8, 1), 1);
        same("came", row(x, 2), "000000002");
        due("one behind the last", x.copy(0, 6, 2, 8, 1), -13);
        due("to one behind the last", x.copy(0, 5, 2, 9, 1), -13);
        same("the first stays", row(x, 0), "100200");
    }

    /** "n, i or j is below 0" */
    private static void copyBelowZero() {
        ShareKeeper x = withRows();
        int[] below = {-1, -2, LOWEST};
        for (int b : below) {
            due("n " + b, x.copy(0, 0, 1, 0, b), -13);
            due("i " + b, x.copy(0, b, 1, 0, 1), -13);
            due("j " + b, x.copy(0, 0, 1, b, 1), -13);
            due("i " + b + ", none", x.copy(0, b, 1, 0, 0), -13);
            due("j " + b + ", none", x.copy(0, 0, 1, b, 0), -13);
            due("n and i " + b, x.copy(0, b, 1, 0, b), -13);
        }
        due("n below 0 that a place makes good", x.copy(0, 3, 1, 3, -1), -13);
        same("nothing came", row(x, 1), "0000000");
    }

    /** None is as many as there is room for, at each place up to the end. */
    private static void copyNone() {
        ShareKeeper x = withRows();
        due("from the first", x.copy(0, 0, 1, 0, 0), 0);
        due("from behind the last", x.copy(0, 6, 1, 7, 0), 0);
        due("beyond that", x.copy(0, 7, 1, 7, 0), -13);
        due("to beyond that", x.copy(0, 6, 1, 8, 0), -13);
        x.make(3, 3, 0);
        due("of an empty ROW", x.copy(3, 0, 3, 0, 0), 0);
        due("of an empty ROW to another", x.copy(3, 0, 0, 6, 0), 0);
        due("one of an empty ROW", x.copy(3, 0, 0, 0, 1), -13);
        due("one to an empty ROW", x.copy(0, 0, 3, 0, 1), -13);
        same("nothing came", row(x, 0), "100200");
    }

    private static void copyWrapsNowhere() {
        ShareKeeper x = withRows();
        due("n", x.copy(0, 0, 1, 0, HIGHEST), -13);
        due("i", x.copy(0, HIGHEST, 1, 0, 1), -13);
        due("j", x.copy(0, 0, 1, HIGHEST, 1), -13);
        due("i and n come to -2", x.copy(0, HIGHEST, 1, 0, HIGHEST), -13);
        due("j and n come to -2", x.copy(0, 0, 1, HIGHEST, HIGHEST), -13);
        due("i and n wrap to 0", x.copy(0, 1, 1, 1, HIGHEST), -13);
        due("j wraps", x.copy(0, 0, 1, HIGHEST, 2), -13);
        due("n lowest, i highest", x.copy(0, HIGHEST, 1, HIGHEST, LOWEST), -13);
        same("nothing came", row(x, 1), "0000000");
    }

    /** "(as they all were before)" */
    private static void copyOntoItself() {
        ShareKeeper x = withRows();
        due("one up", x.copy(0, 0, 0, 1, 5), 5);
        same("came", row(x, 0), "110020");
        due("one down", x.copy(0, 1, 0, 0, 5), 5);
        same("came", row(x, 0), "100200");
        x.keep(0, 3, 0);
        due("two up", x.copy(0, 1, 0, 3, 3), 3);
        same("came", row(x, 0), "100002");
        due("onto its own place", x.copy(0, 0, 0, 0, 6), 6);
        same("stays", row(x, 0), "100002");
        ShareKeeper y = new ShareKeeper(0, 0, 0);
        for (int t = 0; t < 3; t++) {
            y.task(0);
        }
        y.ask(0, 20, false);
        y.ask(0, 1, false);
        y.keep(0, 4, 0);
        same("booleans", row(y, 0), "100");
        due("one up", y.copy(0, 0, 0, 1, 2), 2);
        same("came", row(y, 0), "110");
        due("two down", y.copy(0, 1, 0, 0, 2), 2);
        same("came", row(y, 0), "100");
    }

    /** "n elements": none beside them, on either side. */
    private static void copyLeavesTheOthers() {
        ShareKeeper x = new ShareKeeper(0, 20, 0);
        for (int t = 0; t < 3; t++) {
            x.task(0);
            x.ask(t, 2 * t + 1, false);
            x.ask(t, 2 * t + 2, true);
        }
        x.keep(0, 3, 0);
        x.make(1, 3, 7);
        same("shorts", row(x, 0), "120340560");
        due("down", x.copy(0, 4, 1, 2, 1), 1);
        same("one came", row(x, 1), "0040000");
        due("up", x.copy(0, 0, 1, 4, 1), 1);
        same("one came", row(x, 1), "0040100");
        due("down within it", x.copy(0, 3, 0, 1, 1), 1);
        same("one came", row(x, 0), "130340560");
        due("up within it", x.copy(0, 0, 0, 5, 1), 1);
        same("one came", row(x, 0), "130341560");
        ShareKeeper y = new ShareKeeper(0, 0, 0);
        for (int t = 0; t < 4; t++) {
            y.task(0);
        }
        for (int t = 0; t < 2; t++) {
            y.ask(t, 20, false);
            y.ask(t, 1, false);
        }
        y.keep(0, 4, 0);
        y.make(1, 4, 4);
        y.make(2, 4, 4);
        same("booleans", row(y, 0), "1100");
        due("to the same place", y.copy(0, 1, 1, 1, 1), 1);
        same("one came", row(y, 1), "0100");
        due("up", y.copy(0, 0, 2, 1, 1), 1);
        same("one came", row(y, 2), "0100");
    }

    /** "-1; -11: of either; -12: one is no ROW, or they are not of one kind; -13" */
    private static void copyRefusalsInOrder() {
        ShareKeeper x = withRows();
        x.keep(3, 1, 0);
        x.keep(4, 2, 0);
        x.make(5, 4, 6);
        due("-1 ahead of -11", x.copy(8, 0, 7, 0, 1), -1);
        due("-1 ahead of -11", x.copy(7, 0, 8, 0, 1), -1);
        due("-1 ahead of -12", x.copy(3, 0, -1, 0, 1), -1);
        due("-1 ahead of -13", x.copy(-1, -1, 0, 0, 1), -1);
        due("-11 of the first", x.copy(7, 0, 0, 0, 1), -11);
        due("-11 of the second", x.copy(0, 0, 7, 0, 1), -11);
        due("-11 ahead of -12, a GROUP", x.copy(3, 0, 7, 0, 1), -11);
        due("-11 ahead of -12, a TASK", x.copy(7, 0, 4, 0, 1), -11);
        due("-11 ahead of -13", x.copy(7, -1, 0, 0, 1), -11);
        due("-11 ahead of -13", x.copy(0, 0, 7, 0, -1), -11);
        due("-12 of a GROUP", x.copy(3, 0, 0, 0, 1), -12);
        due("-12 of a GROUP", x.copy(0, 0, 3, 0, 1), -12);
        due("-12 of a TASK", x.copy(4, 0, 0, 0, 1), -12);
        due("-12 of a TASK", x.copy(0, 0, 4, 0, 1), -12);
        due("-12 of a GROUP onto itself", x.copy(3, 0, 3, 0, 0), -12);
        due("-12 of a TASK onto itself", x.copy(4, 0, 4, 0, 0), -12);
        due("-12 of shorts, booleans", x.copy(0, 0, 5, 0, 0), -12);
        due("-12 of booleans, shorts", x.copy(5, 0, 0, 0, 0), -12);
        due("-12 ahead of -13", x.copy(0, -1, 5, 0, 1), -12);
        due("-12 ahead of -13", x.copy(3, 0, 0, 0, -1), -12);
        due("-13", x.copy(0, 0, 1, 0, -1), -13);
        same("nothing came", row(x, 0) + row(x, 1) + row(x, 5), "1002000000000000000");
    }

    /** "-1, -11, -12": no SHELF, nothing, a ROW. */
    private static void heftOfEachKind() {
        ShareKeeper x = new ShareKeeper(0, 0, 0);
        x.task(0);
        due("nothing", x.heft(0), -11);
        x.keep(0, 1, 0);
        due("THE ROOT", x.heft(0), 100);
        x.keep(0, 2, 0);
        due("a TASK", x.heft(0), 5000);
        x.keep(0, 3, 0);
        due("shorts", x.heft(0), -12);
        x.keep(0, 4, 0);
        due("booleans", x.heft(0), -12);
        x.make(0, 3, 0);
        due("an empty ROW", x.heft(0), -12);
        x.keep(0, 0, 0);
        due("nothing again", x.heft(0), -11);
    }

    /** "its number, 10 for each below THE ROOT, and its WEIGHT; of SAVING ones SAVED more, of WHOLE ones twice" */
    private static void heftAtItsEnds() {
        ShareKeeper x = new ShareKeeper(0, 80, 0);
        for (int g = 1; g <= 14; g++) {
            x.group(0, 0);
        }
        for (int g = 15; g <= 19; g++) {
            x.group(g == 15 ? 0 : g - 1, g == 19 ? 2 : g == 18 ? 1 : 0);
        }
        x.weight(19, 1000);
        x.weight(17, 1);
        x.most(18, 40, 100);
        x.keep(0, 1, 19);
        x.keep(1, 1, 18);
        x.keep(2, 1, 17);
        due("WHOLE, the last, five below, WEIGHT 1000", x.heft(0), 2 * (19 + 50 + 1000));
        due("SAVING, none SAVED", x.heft(1), 18 + 40 + 100);
        due("PLAIN, WEIGHT 1", x.heft(2), 17 + 30 + 1);
        x.run(30);
        x.keep(1, 1, 18);
        due("SAVING, 100 SAVED", x.heft(1), 18 + 40 + 100 + 100);
        x.task(19);
        x.ask(0, 99, false);
        x.ask(0, 1, true);
        x.keep(3, 2, 0);
        due("a TASK with KEPT and LOOSE ones", x.heft(3), 5099);
        x.ask(0, 1, false);
        x.keep(3, 2, 0);
        due("a TASK with all of M", x.heft(3), 5100);
    }

    /** "of GROUPS of KINDS 1, 2 the number. -1, -11, -12; -15: PLAIN ones and TASKS have none." */
    private static void tossOfEachKind() {
        ShareKeeper x = new ShareKeeper(0, 0, 0);
        due("nothing", x.toss(0), -11);
        for (int g = 1; g <= 19; g++) {
            x.group(0, g % 3);
        }
        x.task(0);
        for (int g = 0; g <= 19; g++) {
            x.keep(0, 1, g);
            due("GROUP " + g, x.toss(0), g % 3 == 0 ? -15 : g);
        }
        x.keep(0, 2, 0);
        due("a TASK", x.toss(0), -15);
        x.keep(0, 3, 0);
        due("shorts", x.toss(0), -12);
        x.keep(0, 4, 0);
        due("booleans", x.toss(0), -12);
        x.make(0, 4, 0);
        due("an empty ROW", x.toss(0), -12);
        x.keep(0, 1, 19);
        due("it can be tossed again", x.toss(0) + x.toss(0), 38);
    }
}
