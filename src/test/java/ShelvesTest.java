/** Promises 28 to 33: shelves and what they hold. */
public final class ShelvesTest {
    private static final Checks CHECKS = new Checks("ShelvesTest");

    private static void due(String call, long got, long want) {
        CHECKS.due(call, got, want);
    }

    public static void main(String[] args) {
        promise28Keep();
        promise28RowsOfTasks();
        promise28AsTheyWere();
        promise29Make();
        promise30Element();
        promise31Copy();
        promise31CopyWithinOne();
        promise31CopyRefusals();
        promise32Heft();
        promise33Toss();
        CHECKS.end();
    }

    private static void promise28Keep() {
        ShareKeeper x = new ShareKeeper(0, 0, 0);
        x.task(0);
        due("shelf -1", x.keep(-1, 1, 0), -1);
        due("shelf 8", x.keep(8, 1, 0), -1);
        due("shelf 8 of nothing", x.keep(8, 0, 0), -1);
        due("what -1", x.keep(0, -1, 0), -1);
        due("what 5", x.keep(0, 5, 0), -1);
        due("no group", x.keep(0, 1, 1), -1);
        due("group -1", x.keep(0, 1, -1), -1);
        due("no task", x.keep(0, 2, 1), -1);
        due("nothing yet", x.heft(0), -11);
        due("root", x.keep(0, 1, 0), 0);
        due("heft", x.heft(0), 100);
        due("refused", x.keep(0, 2, 7), -1);
        due("stays", x.heft(0), 100);
        due("nothing, whatever k is", x.keep(0, 0, -77), 0);
        due("nothing", x.heft(0), -11);
        due("row, whatever k is", x.keep(7, 3, -77), 0);
        due("flags, whatever k is", x.keep(6, 4, 500), 0);
        due("row", x.heft(7), -12);
    }

    private static void promise28RowsOfTasks() {
        ShareKeeper x = new ShareKeeper(0, 80, 40);
        due("no tasks", x.keep(0, 3, 0), 0);
        CHECKS.elementThrows(x, 0, 0, 2);
        for (int t = 0; t < 25; t++) {
            x.task(0);
        }
        x.ask(19, 60, false);
        x.ask(0, 7, true);
        x.ask(2, 30, false);
        x.ask(0, 20, false);
        due("shorts", x.keep(0, 3, 0), 0);
        due("kept of 0", x.element(0, 0), 20);
        due("loose of 0", x.element(0, 1), 0);
        due("aside of 0", x.element(0, 2), 0);
        due("kept of 2", x.element(0, 6), 30);
        due("kept of 19", x.element(0, 57), 50);
        due("loose of 19", x.element(0, 58), 0);
        due("aside of 19", x.element(0, 59), 10);
        CHECKS.elementThrows(x, 0, 60, 2);
        due("booleans", x.keep(1, 4, 0), 0);
        due("of 24", x.element(1, 24), 0);
        CHECKS.elementThrows(x, 1, 25, 2);
        x.worth(3, 1);
        x.ask(3, 100, false);
        due("booleans", x.keep(1, 4, 0), 0);
        due("went", x.element(1, 19), 1);
        due("stays", x.element(1, 3), 0);
    }

    private static void promise28AsTheyWere() {
        ShareKeeper x = new ShareKeeper(0, 80, 0);
        x.group(0, 1);
        x.group(0, 0);
        x.task(1);
        x.most(1, 5, 9);
        x.ask(0, 6, false);
        x.keep(0, 1, 1);
        x.keep(1, 2, 0);
        x.keep(2, 3, 0);
        x.run(10);
        x.weight(1, 7);
        x.move(1, 2);
        x.free(0, 2, false);
        due("group as it was", x.heft(0), 111);
        due("task as it was", x.heft(1), 5006);
        due("row as it was", x.element(2, 0), 6);
        x.keep(0, 1, 1);
        x.keep(1, 2, 0);
        due("group as it is", x.heft(0), 1 + 20 + 7 + 5);
        due("task as it is", x.heft(1), 5004);
    }

    private static void promise29Make() {
        ShareKeeper x = new ShareKeeper(0, 0, 0);
        due("shelf -1", x.make(-1, 3, 1), -1);
        due("shelf 8", x.make(8, 3, 1), -1);
        due("what 2", x.make(0, 2, 1), -1);
        due("what 5", x.make(0, 5, 1), -1);
        due("61", x.make(0, 3, 61), -1);
        due("highest", x.make(0, 4, Integer.MAX_VALUE), -1);
        due("-1 ahead of -14", x.make(0, 2, -1), -1);
        due("-1", x.make(0, 3, -1), -14);
        due("lowest", x.make(0, 4, Integer.MIN_VALUE), -14);
        due("nothing came", x.heft(0), -11);
        due("0", x.make(0, 3, 0), 0);
        CHECKS.elementThrows(x, 0, 0, 2);
        due("60", x.make(0, 3, 60), 0);
        for (int i = 0; i < 60; i++) {
            due("element " + i, x.element(0, i), 0);
        }
        CHECKS.elementThrows(x, 0, 60, 2);
        due("60 booleans", x.make(7, 4, 60), 0);
        due("the last", x.element(7, 59), 0);
        CHECKS.elementThrows(x, 7, 60, 2);
        due("refused", x.make(7, 3, -5), -14);
        due("stays", x.element(7, 59), 0);
    }

    private static void promise30Element() {
        ShareKeeper x = new ShareKeeper(0, 0, 0);
        x.task(0);
        x.ask(0, 4, true);
        CHECKS.elementThrows(x, -1, 0, 1);
        CHECKS.elementThrows(x, 8, 0, 1);
        CHECKS.elementThrows(x, Integer.MIN_VALUE, -1, 1);
        CHECKS.elementThrows(x, 0, 0, 2);
        x.keep(0, 1, 0);
        CHECKS.elementThrows(x, 0, 0, 2);
        x.keep(0, 2, 0);
        CHECKS.elementThrows(x, 0, 0, 2);
        x.keep(0, 3, 0);
        CHECKS.elementThrows(x, 0, 0, 0);
        CHECKS.elementThrows(x, 0, -1, 2);
        CHECKS.elementThrows(x, 0, 3, 2);
        CHECKS.elementThrows(x, 0, Integer.MAX_VALUE, 2);
        CHECKS.elementThrows(x, 0, Integer.MIN_VALUE, 2);
        due("loose", x.element(0, 1), 4);
        x.ask(0, 5, false);
        x.ask(0, 30, false);
        x.keep(1, 4, 0);
        due("gone", x.element(1, 0), 1);
        CHECKS.elementThrows(x, 1, 1, 2);
    }

    /** A keeper whose shelf 0 holds 4 0 0 10 0 0, and shelf 1 true false. */
    private static ShareKeeper rows() {
        ShareKeeper x = new ShareKeeper(0, 0, 0);
        x.task(0);
        x.task(0);
        x.group(0, 0);
        x.ask(0, 4, false);
        x.ask(1, 10, false);
        x.keep(0, 3, 0);
        x.worth(1, 3);
        x.ask(1, 8, false);
        x.keep(1, 4, 0);
        return x;
    }

    private static void promise31Copy() {
        ShareKeeper x = rows();
        due("kept of 0", x.element(0, 0), 4);
        due("kept of 1", x.element(0, 3), 10);
        x.make(2, 3, 5);
        due("copy", x.copy(0, 0, 2, 1, 4), 4);
        int[] want = {0, 4, 0, 0, 10};
        for (int i = 0; i < want.length; i++) {
            due("element " + i, x.element(2, i), want[i]);
        }
        due("the row stays", x.element(0, 3), 10);
        due("none", x.copy(0, 6, 2, 5, 0), 0);
        due("booleans", x.make(3, 4, 3), 0);
        due("copy booleans", x.copy(1, 0, 3, 1, 2), 2);
        due("0", x.element(3, 0), 0);
        due("1", x.element(3, 1), 1);
        due("2", x.element(3, 2), 0);
    }

    private static void promise31CopyWithinOne() {
        ShareKeeper x = new ShareKeeper(0, 80, 0);
        for (int t = 0; t < 4; t++) {
            x.task(0);
            x.ask(t, t + 1, false);
        }
        x.keep(0, 3, 0);
        int[] now = {1, 0, 0, 2, 0, 0, 3, 0, 0, 4, 0, 0};
        due("up", x.copy(0, 0, 0, 3, 9), 9);
        int[] up = {1, 0, 0, 1, 0, 0, 2, 0, 0, 3, 0, 0};
        for (int i = 0; i < up.length; i++) {
            due("up " + i, x.element(0, i), up[i]);
        }
        x.keep(0, 3, 0);
        due("down", x.copy(0, 3, 0, 0, 9), 9);
        int[] down = {2, 0, 0, 3, 0, 0, 4, 0, 0, 4, 0, 0};
        for (int i = 0; i < down.length; i++) {
            due("down " + i, x.element(0, i), down[i]);
        }
        x.keep(0, 3, 0);
        due("onto itself", x.copy(0, 0, 0, 0, 12), 12);
        for (int i = 0; i < now.length; i++) {
            due("as it was " + i, x.element(0, i), now[i]);
        }
    }

    private static void promise31CopyRefusals() {
        ShareKeeper x = rows();
        x.make(2, 3, 3);
        x.keep(3, 1, 1);
        x.keep(4, 2, 0);
        due("shelf -1", x.copy(-1, 0, 2, 0, 1), -1);
        due("shelf 8", x.copy(0, 0, 8, 0, 1), -1);
        due("nothing from", x.copy(7, 0, 2, 0, 1), -11);
        due("nothing to", x.copy(0, 0, 7, 0, 1), -11);
        due("-11 ahead of -12", x.copy(3, 0, 7, 0, 1), -11);
        due("a group from", x.copy(3, 0, 2, 0, 1), -12);
        due("a task to", x.copy(0, 0, 4, 0, 1), -12);
        due("two groups", x.copy(3, 0, 3, 0, 0), -12);
        due("shorts to booleans", x.copy(0, 0, 1, 0, 1), -12);
        due("booleans to shorts", x.copy(1, 0, 0, 0, 1), -12);
        due("-12 ahead of -13", x.copy(1, 0, 0, 0, -1), -12);
        due("n -1", x.copy(0, 0, 2, 0, -1), -13);
        due("i -1", x.copy(0, -1, 2, 0, 1), -13);
        due("j -1", x.copy(0, 0, 2, -1, 1), -13);
        due("beyond from", x.copy(0, 5, 2, 0, 2), -13);
        due("beyond to", x.copy(0, 0, 2, 0, 4), -13);
        due("j beyond to", x.copy(0, 0, 2, 2, 2), -13);
        due("i beyond, n 0", x.copy(0, 7, 2, 0, 0), -13);
        due("j beyond, n 0", x.copy(0, 0, 2, 4, 0), -13);
        due("wraps", x.copy(0, Integer.MAX_VALUE, 2, 0, Integer.MAX_VALUE), -13);
        due("wraps", x.copy(0, 1, 2, 1, Integer.MAX_VALUE), -13);
        due("wraps", x.copy(0, 0, 2, Integer.MAX_VALUE, 1), -13);
        due("lowest", x.copy(0, 0, 2, 0, Integer.MIN_VALUE), -13);
        due("nothing came", x.element(2, 0), 0);
    }

    private static void promise32Heft() {
        ShareKeeper x = new ShareKeeper(0, 80, 0);
        x.group(0, 0);
        x.group(1, 1);
        x.group(2, 2);
        x.task(3);
        x.weight(1, 31);
        x.weight(2, 500);
        x.weight(3, 17);
        x.most(2, 4, 100);
        x.most(1, 4, 100);
        x.most(3, 4, 100);
        x.run(30);
        x.ask(0, 9, false);
        x.ask(0, 3, true);
        for (int g = 0; g < 4; g++) {
            x.keep(g, 1, g);
        }
        x.keep(4, 2, 0);
        x.make(5, 3, 1);
        x.make(6, 4, 1);
        due("root", x.heft(0), 100);
        due("plain", x.heft(1), 1 + 10 + 31);
        due("saving", x.heft(2), 2 + 20 + 500 + 12);
        due("whole", x.heft(3), 2 * (3 + 30 + 17));
        due("task", x.heft(4), 5009);
        due("shorts", x.heft(5), -12);
        due("booleans", x.heft(6), -12);
        due("nothing", x.heft(7), -11);
        due("shelf -1", x.heft(-1), -1);
        due("shelf 8", x.heft(8), -1);
    }

    private static void promise33Toss() {
        ShareKeeper x = new ShareKeeper(0, 0, 0);
        x.group(0, 2);
        x.group(0, 0);
        x.group(0, 1);
        x.task(0);
        for (int g = 0; g < 4; g++) {
            x.keep(g, 1, g);
        }
        x.keep(4, 2, 0);
        x.make(5, 3, 1);
        x.make(6, 4, 1);
        due("root", x.toss(0), -15);
        due("whole", x.toss(1), 1);
        due("plain", x.toss(2), -15);
        due("saving", x.toss(3), 3);
        due("saving again", x.toss(3), 3);
        due("task", x.toss(4), -15);
        due("shorts", x.toss(5), -12);
        due("booleans", x.toss(6), -12);
        due("nothing", x.toss(7), -11);
        due("shelf -1", x.toss(-1), -1);
        due("shelf 8", x.toss(8), -1);
    }
}
