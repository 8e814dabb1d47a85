import java.util.List;

/** Promises 25 to 27: images, and the counts of all. */
public final class ImagesTest {
    private static final Checks CHECKS = new Checks("ImagesTest");

    private static void due(String call, long got, long want) {
        CHECKS.due(call, got, want);
    }

    public static void main(String[] args) {
        promise26NoImage();
        promise26AllComesBack();
        promise26RunsOnAlike();
        promise26AllThatShowsLaterComesBack();
        promise26LimitsComeBack();
        promise26WhoWantedComesBack();
        promise26NewOnesAreNew();
        promise26GoneOnesComeBack();
        promise25TheOneBeforeGoes();
        promise25NotShelvesNorDone();
        promise27Count();
        CHECKS.end();
    }

    private static ShareKeeper busy() {
        ShareKeeper x = new ShareKeeper(1, 30, 8);
        x.group(0, 1);
        x.group(1, 2);
        x.group(0, 0);
        x.task(1);
        x.task(2);
        x.task(3);
        x.most(1, 6, 9);
        x.weight(1, 300);
        x.weight(102, 50);
        x.cellsOf(1, 10, 12, 40);
        x.worth(1, 4);
        x.work(0, 40);
        x.work(1, 30);
        x.work(2, 20);
        x.ask(0, 20, false);
        x.ask(1, 10, true);
        x.run(13);
        x.ask(2, 25, false);
        x.freeze(3, true);
        x.run(2);
        return x;
    }

    private static String seen(ShareKeeper x) {
        StringBuilder all = new StringBuilder();
        for (int what = 0; what < 9; what++) {
            all.append(x.count(what)).append(' ');
        }
        for (int g = 0; g < x.count(4); g++) {
            for (int what = 0; what < 10; what++) {
                all.append(x.look(g, what)).append(' ');
            }
            all.append(x.vtime(g)).append(' ').append(x.even(g)).append(' ');
            all.append(x.pressed(g, false, 30)).append(' ').append(x.pressed(g, true, 7)).append(' ');
        }
        for (int t = 0; t < x.count(5); t++) {
            for (int what = 0; what < 9; what++) {
                all.append(x.about(t, what)).append(' ');
            }
            all.append(x.vtime(100 + t)).append(' ').append(x.plan(t, 9)).append(' ');
        }
        for (int i = 0; i < x.count(8); i++) {
            for (int what = 0; what < 4; what++) {
                all.append(x.gone(i, what)).append(' ');
            }
        }
        return all.append(x.who(0)).append(' ').append(x.who(1)).toString();
    }

    private static void same(String what, String got, String want) {
        due(what + ": " + got + " / " + want, got.equals(want) ? 1 : 0, 1);
    }

    private static void promise26NoImage() {
        ShareKeeper x = new ShareKeeper(0, 0, 0);
        due("none", x.restore(), -2);
        due("image", x.image(), 1);
        due("restore", x.restore(), 1);
        x.run(7);
        due("image later", x.image(), 8);
        due("restore later", x.restore(), 8);
    }

    private static void promise26AllComesBack() {
        ShareKeeper x = busy();
        String before = seen(x);
        due("image", x.image(), 16);
        x.freeze(3, false);
        x.move(2, 3);
        x.most(1, -1, 0);
        x.weight(100, 1);
        x.cellsOf(1, 0, -1, -1);
        x.group(3, 1);
        x.task(4);
        x.work(3, 9);
        x.run(37);
        x.ask(3, 50, false);
        due("restore", x.restore(), 16);
        same("as it was", seen(x), before);
        x.run(5);
        due("the image stays", x.restore(), 16);
        same("as it was again", seen(x), before);
    }

    private static void promise26RunsOnAlike() {
        ShareKeeper x = busy();
        ShareKeeper y = busy();
        x.image();
        x.move(1, 3);
        x.run(11);
        x.cellsOf(0, 0, 0, -1);
        x.run(4);
        x.restore();
        due("most", x.run(1), y.run(1));
        due("weight of 1", x.weight(1, 100), y.weight(1, 100));
        due("worth of 1", x.worth(1, 0), y.worth(1, 0));
        due("unfreeze", x.freeze(3, false), y.freeze(3, false));
        due("run", x.run(23), y.run(23));
        due("ask", x.ask(1, 12, true), y.ask(1, 12, true));
        due("run", x.run(23), y.run(23));
        due("move", x.move(2, 0), y.move(2, 0));
        due("leasts", x.cellsOf(3, 45, -1, -1), y.cellsOf(3, 45, -1, -1));
        same("alike", seen(x), seen(y));
    }

    private static void mess(ShareKeeper x) {
        for (int g = 1; g <= 3; g++) {
            x.weight(g, 7);
            x.most(g, 2, 1);
            x.cellsOf(g, 0, 0, 3);
            x.freeze(g, g != 3);
        }
        for (int t = 0; t <= 2; t++) {
            x.weight(100 + t, 9);
            x.worth(t, 900 - t);
            x.work(t, 30);
            x.touch(t);
        }
        x.move(2, 3);
        x.task(3);
        x.work(3, 50);
        x.ask(3, 3, true);
        x.run(30);
        x.group(3, 1);
    }

    private static void promise26AllThatShowsLaterComesBack() {
        ShareKeeper x = busy();
        x.image();
        ShareKeeper y = busy();
        y.image();
        mess(y);
        due("restore", y.restore(), 16);
        List<String> got = Portrait.of(y);
        List<String> want = Portrait.of(x);
        due("as many answers", got.size(), want.size());
        for (int i = 0; i < got.size() && i < want.size(); i++) {
            // What done() tells isn't in an IMAGE.
            if (!want.get(i).startsWith("done(")) {
                same("answer " + i, got.get(i), want.get(i));
            }
        }
    }

    private static void promise26LimitsComeBack() {
        ShareKeeper x = new ShareKeeper(0, 0, 6);
        x.group(0, 1);
        x.task(1);
        x.task(0);
        x.most(1, 4, 3);
        x.cellsOf(1, 5, 9, 12);
        x.ask(0, 12, false);
        x.ask(1, 14, false);
        x.run(10);
        due("saved", x.look(1, 5), 3);
        due("aside", x.about(0, 5), 6);
        x.image();
        x.most(1, 2, 0);
        x.cellsOf(1, 0, -1, -1);
        x.run(10);
        x.free(1, 14, false);
        x.back(0);
        x.restore();
        due("saved", x.look(1, 5), 3);
        due("room", x.look(1, 4), 7);
        due("aside", x.about(0, 5), 6);
        due("aside in all", x.count(7), 6);
        due("LEAST", x.move(1, 0), 0);
        x.group(0, 0);
        due("LEAST of the others", x.cellsOf(2, 16, -1, -1), -3);
        due("LEAST of the others", x.cellsOf(2, 15, -1, -1), 0);
        x.run(10);
        due("TO SAVE", x.look(1, 5), 3);
        due("TOP", x.ask(0, 7, true), -3);
        due("by TOP", x.gone(0, 1), 1);
        due("at the tick", x.gone(0, 3), 21);
        x.image();
        x.ask(1, 50, false);
        due("the other went", x.gone(1, 0), 1);
        x.restore();
        due("the first stays gone", x.gone(0, 0), 0);
        due("the other doesn't", x.gone(1, 0), -1);
        goneOfAnImage();
    }

    private static void goneOfAnImage() {
        ShareKeeper x = new ShareKeeper(0, 0, 0);
        x.task(0);
        x.task(0);
        x.image();
        x.ask(0, 9, false);
        x.ask(0, 20, false);
        due("0 went", x.gone(0, 0), 0);
        x.restore();
        x.ask(1, 9, false);
        x.ask(1, 20, false);
        due("now 1 went", x.gone(0, 0), 1);
        due("0 didn't", x.about(0, 6), 0);
    }

    private static void promise26WhoWantedComesBack() {
        ShareKeeper x = new ShareKeeper(0, 0, 0);
        x.task(0);
        x.task(0);
        x.weight(101, 10);
        x.work(0, 50);
        x.run(5);
        x.image();
        x.work(1, 9);
        x.run(2);
        x.restore();
        x.work(1, 9);
        x.run(1);
        due("it didn't WANT before: lifted to 40000", x.vtime(101), 140000);
        x.image();
        x.free(0, 1, false);
        x.group(0, 0);
        x.run(100);
        x.run(10);
        due("all is done", x.about(1, 1), 0);
        x.restore();
        x.run(1);
        due("it WANTED before: not lifted", x.vtime(101), 140000);
        due("the other goes on", x.vtime(100), 60000);
    }

    private static void promise26NewOnesAreNew() {
        ShareKeeper x = new ShareKeeper(0, 0, 0);
        x.image();
        x.group(0, 1);
        x.task(1);
        x.weight(1, 5);
        x.weight(100, 5);
        x.most(1, 4, 4);
        x.cellsOf(1, 3, 3, 3);
        x.worth(0, 3);
        x.work(0, 9);
        x.ask(0, 2, true);
        x.run(15);
        x.freeze(1, true);
        x.restore();
        due("groups", x.count(4), 1);
        due("tasks", x.count(5), 0);
        due("no group", x.look(1, 0), -1);
        due("no task", x.about(0, 0), -1);
        due("group", x.group(0, 0), 1);
        due("task", x.task(0), 0);
        due("kind", x.look(1, 0), 0);
        due("no MOST", x.look(1, 4), -2);
        due("saved", x.look(1, 5), 0);
        due("frozen", x.look(1, 9), 0);
        due("weight", x.weight(1, 1), 100);
        due("weight of the task", x.weight(100, 1), 100);
        due("vtime", x.vtime(1), 0);
        due("vtime of the task", x.vtime(100), 0);
        due("worth", x.worth(0, 0), 0);
        due("work", x.about(0, 1), 0);
        due("loose", x.about(0, 4), 0);
        due("touch", x.about(0, 7), 0);
        due("pressed", x.pressed(1, false, 30), 0);
    }

    private static void promise26GoneOnesComeBack() {
        ShareKeeper x = new ShareKeeper(0, 0, 0);
        x.task(0);
        x.task(0);
        x.worth(1, 1);
        x.ask(0, 8, false);
        x.image();
        x.ask(1, 20, false);
        due("went", x.gone(0, 0), 0);
        x.restore();
        due("is there", x.about(0, 6), 0);
        due("with its cells", x.about(0, 3), 8);
        due("none went", x.gone(0, 0), -1);
        due("none", x.count(8), 0);
        due("work", x.work(0, 3), 3);
    }

    private static void promise25TheOneBeforeGoes() {
        ShareKeeper x = new ShareKeeper(0, 0, 0);
        x.task(0);
        x.work(0, 9);
        x.image();
        x.run(4);
        due("image", x.image(), 5);
        x.run(3);
        due("the latest one", x.restore(), 5);
        due("work", x.about(0, 1), 5);
    }

    private static void promise25NotShelvesNorDone() {
        ShareKeeper x = new ShareKeeper(0, 0, 0);
        x.task(0);
        x.ask(0, 5, true);
        x.keep(0, 2, 0);
        x.image();
        x.ask(0, 18, false);
        due("dropped", x.done(0), 3);
        x.keep(1, 2, 0);
        x.keep(0, 0, 0);
        x.restore();
        due("done stays", x.done(0), 3);
        due("shelf stays", x.heft(1), 5018);
        due("empty shelf stays", x.heft(0), -11);
    }

    private static void promise27Count() {
        ShareKeeper x = new ShareKeeper(2, 5, 7);
        x.group(0, 0);
        x.task(1);
        x.task(0);
        x.task(0);
        x.worth(1, 3);
        x.worth(2, 5);
        x.run(4);
        x.ask(0, 10, false);
        x.ask(1, 20, false);
        x.ask(2, 8, true);
        x.free(2, 2, true);
        int[] all = {5, 3, 25, 7, 2, 3, 2, 3, 1};
        for (int what = 0; what < all.length; what++) {
            due("count(" + what + ")", x.count(what), all[what]);
        }
        due("count(-1)", x.count(-1), -1);
        due("count(9)", x.count(9), -1);
    }
}
