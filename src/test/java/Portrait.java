import java.util.ArrayList;
import java.util.List;

/**
 * All that can be seen of a keeper, then what shows only as it goes on: two that are alike have the same
 * portrait. The keeper is used up by it: it changes, and most of its 512 calls are gone.
 */
final class Portrait {
    /** What is left of the 512 calls goes to the keeper's making. */
    static final int MOST_CALLS = 450;

    private final ShareKeeper x;
    private final List<String> seen = new ArrayList<>();
    private int calls;

    private Portrait(ShareKeeper x) {
        this.x = x;
    }

    static List<String> of(ShareKeeper x) {
        Portrait portrait = new Portrait(x);
        int groups = portrait.add("groups", x.count(4));
        int tasks = portrait.add("tasks", x.count(5));
        portrait.counts();
        portrait.groups(groups);
        portrait.tasks(tasks);
        portrait.shelves();
        portrait.setAnew(groups, tasks);
        portrait.ticks(groups);
        portrait.saved(groups);
        portrait.cells(tasks);
        portrait.tops(groups, tasks);
        portrait.leasts(groups);
        portrait.image();
        if (portrait.calls > MOST_CALLS) {
            throw new IllegalStateException("a portrait of " + portrait.calls + " calls");
        }
        return portrait.seen;
    }

    private int add(String name, long answer) {
        calls++;
        seen.add(name + " " + answer);
        return (int) answer;
    }

    private void counts() {
        for (int what = 0; what <= 8; what++) {
            add("count(" + what + ")", x.count(what));
        }
        for (int what = 0; what <= 2; what++) {
            add("done(" + what + ")", x.done(what));
        }
        for (int i = 0; add("gone(" + i + ", 0)", x.gone(i, 0)) != -1; i++) {
            for (int what = 1; what <= 3; what++) {
                add("gone(" + i + ", " + what + ")", x.gone(i, what));
            }
        }
        for (int p = 0; add("who(" + p + ")", x.who(p)) != -1; p++) {
            continue;
        }
    }

    private void groups(int groups) {
        for (int g = 0; g < groups; g++) {
            for (int what = 0; what <= 9; what++) {
                add("look(" + g + ", " + what + ")", x.look(g, what));
            }
            add("vtime(" + g + ")", x.vtime(g));
            add("even(" + g + ")", x.even(g));
            add("SOME of " + g, x.pressed(g, false, 30));
            add("FULL of " + g, x.pressed(g, true, 30));
        }
    }

    private void tasks(int tasks) {
        for (int t = 0; t < tasks; t++) {
            for (int what = 0; what <= 8; what++) {
                add("about(" + t + ", " + what + ")", x.about(t, what));
            }
            add("vtime of TASK " + t, x.vtime(100 + t));
            add("plan of TASK " + t, x.plan(t, 20));
        }
    }

    private void shelves() {
        for (int d = 0; d <= 7; d++) {
            add("heft(" + d + ")", x.heft(d));
            add("toss(" + d + ")", x.toss(d));
            for (int i = 0; i < 4; i++) {
                add("element(" + d + ", " + i + ")", elementOrNone(d, i));
            }
        }
    }

    private long elementOrNone(int d, int i) {
        try {
            return x.element(d, i);
        } catch (IllegalStateException e) {
            return -1;
        }
    }

    /** WEIGHT and WORTH are told only as they are set anew. */
    private void setAnew(int groups, int tasks) {
        for (int g = 1; g < groups; g++) {
            add("weight of " + g, x.weight(g, 100 + g));
        }
        for (int t = 0; t < tasks; t++) {
            add("weight of TASK " + t, x.weight(100 + t, 100 + t));
            add("worth of TASK " + t, x.worth(t, t % 2));
        }
    }

    /** HIGH, MOST, FLOOR and who WANTED show in the ticks to come. */
    private void ticks(int groups) {
        for (int i = 0; i < 8; i++) {
            add("run", x.run(1));
            add("who", x.who(0));
            add("who", x.who(1));
        }
        add("run", x.run(10));
        for (int g = 0; g < groups; g++) {
            add("ROOM of " + g, x.look(g, 4));
            add("SAVED of " + g, x.look(g, 5));
        }
    }

    /** TO SAVE shows where nothing is done. */
    private void saved(int groups) {
        for (int g = 1; g < groups; g++) {
            add("freeze " + g, x.freeze(g, true));
        }
        add("run", x.run(20));
        for (int g = 1; g < groups; g++) {
            add("SAVED of " + g, x.look(g, 5));
            add("thaw " + g, x.freeze(g, false));
        }
    }

    /** What is dropped, and who goes. */
    private void cells(int tasks) {
        for (int t = 0; t < tasks; t++) {
            add("ask of TASK " + t, x.ask(t, 7, t % 2 == 0));
            add("dropped", x.done(0));
            add("put ASIDE", x.done(1));
            add("went", x.done(2));
        }
        for (int t = 0; t < tasks; t++) {
            add("KEPT of TASK " + t, x.about(t, 3));
            add("LOOSE of TASK " + t, x.about(t, 4));
        }
    }

    /** How much a new TASK in each GROUP can get where no other one has any. */
    private void tops(int groups, int tasks) {
        for (int t = 0; t < tasks; t++) {
            freeAll(t, 3, false);
            freeAll(t, 4, true);
        }
        for (int g = 0; g < groups; g++) {
            int task = add("a TASK under " + g, x.task(g));
            int most = 0;
            for (int step = 32; step > 0; step /= 2) {
                if (add("TOP of " + g, x.ask(task, most + step, true)) > 0) {
                    most += step;
                    add("free", x.free(task, most, true));
                }
            }
        }
    }

    private void freeAll(int task, int what, boolean loose) {
        int n = add("cells of " + task, x.about(task, what));
        if (n > 0) {
            add("free", x.free(task, n, loose));
        }
    }

    /** How much LEAST each one still has to give. */
    private void leasts(int groups) {
        for (int g = 0; g < groups; g++) {
            int below = add("a GROUP under " + g, x.group(g, 0));
            int least = 0;
            for (int step = 16; step > 0; step /= 2) {
                if (add("LEAST under " + g, x.cellsOf(below, least + step, -1, -1)) == 0) {
                    least += step;
                }
            }
        }
    }

    private void image() {
        add("restore", x.restore());
        for (int what = 4; what <= 8; what++) {
            add("count(" + what + ") of the IMAGE", x.count(what));
        }
        for (int t = 0; t < 3; t++) {
            add("WORK of the IMAGE", x.about(t, 1));
            add("KEPT of the IMAGE", x.about(t, 3));
        }
    }
}
