import java.util.ArrayList;
import java.util.List;
import java.util.Random;

/** Random runs of calls, each answered by ShareKeeper and by the document read word by word. */
public final class PlainReadingTest {
    private static final int CALLS = 500;
    private static final String[] NAMES = {
        "group", "task", "weight", "most", "cellsOf", "freeze", "move", "work", "worth", "run", "who",
        "ask", "free", "back", "touch", "look", "about", "vtime", "pressed", "gone", "done", "even",
        "plan", "image", "restore", "count", "keep", "make", "element", "copy", "heft", "toss"};

    private final Random random;
    private final ShareKeeper keeper;
    private final PlainReading reading;
    private final List<String> calls = new ArrayList<>();
    /** How often each method is called: another mixture in each run. */
    private final int[] shares = new int[NAMES.length];
    private final int longestRun;

    private PlainReadingTest(long seed) {
        random = new Random(seed);
        int a = between(-9, 9);
        int b = random.nextInt(3) == 0 ? between(-200, 200) : between(0, 30);
        int c = random.nextInt(3) == 0 ? between(-100, 100) : between(0, 6);
        keeper = new ShareKeeper(a, b, c);
        reading = new PlainReading(a, b, c);
        calls.add("new ShareKeeper(" + a + ", " + b + ", " + c + ")");
        for (int i = 0; i < shares.length; i++) {
            shares[i] = random.nextInt(12);
        }
        // Growth, work and cells in every run: without them nothing happens.
        shares[0] += 3;
        shares[1] += 6;
        shares[7] += 6;
        shares[9] += 8;
        shares[11] += 8;
        longestRun = new int[] {2, 5, 12, 30}[random.nextInt(4)];
    }

    private int between(int low, int high) {
        return low + random.nextInt(high - low + 1);
    }

    private boolean coin() {
        return random.nextBoolean();
    }

    /** Mostly within low .. high; seldom just outside, or far outside. */
    private int number(int low, int high) {
        int dice = random.nextInt(60);
        if (dice == 0) {
            return low - 1;
        }
        if (dice == 1) {
            return high + 1;
        }
        if (dice == 2) {
            return coin() ? Integer.MIN_VALUE : Integer.MAX_VALUE;
        }
        return dice == 3 ? low : dice == 4 ? high : between(low, high);
    }

    private int group() {
        return number(0, Math.max(0, reading.count(4) - 1));
    }

    private int task() {
        return number(0, Math.max(0, reading.count(5) - 1));
    }

    private int which() {
        return coin() ? group() : 100 + task() % 1000;
    }

    private int shelf() {
        return number(0, 7);
    }

    private String nextName() {
        int sum = 0;
        for (int share : shares) {
            sum += share;
        }
        int at = random.nextInt(sum);
        for (int i = 0; i < shares.length; i++) {
            at -= shares[i];
            if (at < 0) {
                return NAMES[i];
            }
        }
        return NAMES[0];
    }

    private int[] argumentsOf(String name) {
        switch (name) {
            case "group": return new int[] {group(), number(0, 2)};
            case "task": return new int[] {group()};
            case "weight": return new int[] {which(), coin() ? number(1, 1000) : between(1, 5) * 50};
            case "most": return new int[] {group(), coin() ? number(-1, 40) : between(-1, 6),
                coin() ? number(0, 100) : between(0, 9)};
            case "cellsOf": return new int[] {group(), coin() ? 0 : number(0, coin() ? 100 : 8),
                coin() ? -1 : number(-1, coin() ? 100 : 12), coin() ? -1 : number(-1, coin() ? 100 : 15)};
            case "freeze": return new int[] {group(), random.nextInt(3) / 2};
            case "move": return new int[] {group(), group()};
            case "work": return new int[] {task(), coin() ? number(1, 1000) : between(1, 12)};
            case "worth": return new int[] {task(), coin() ? number(0, 1000) : between(0, 2)};
            case "run": return new int[] {random.nextInt(40) == 0 ? number(1, 200) : number(1, longestRun)};
            case "who": return new int[] {number(0, 3)};
            case "ask": return new int[] {task(),
                random.nextInt(40) == 0 ? number(1, 200) : number(1, 12), between(0, 1)};
            case "free": return new int[] {task(), number(1, 6), between(0, 1)};
            case "look": return new int[] {group(), number(0, 9)};
            case "about": return new int[] {task(), number(0, 8)};
            case "vtime": return new int[] {which()};
            case "pressed": return new int[] {group(), between(0, 1), number(1, 30)};
            case "gone": return new int[] {number(0, Math.max(0, reading.count(8) - 1)), number(0, 3)};
            case "done": return new int[] {number(0, 2)};
            case "even": return new int[] {group()};
            case "plan": return new int[] {task(),
                random.nextInt(40) == 0 ? number(1, 200) : number(1, longestRun)};
            case "count": return new int[] {number(0, 8)};
            case "keep": return new int[] {shelf(), number(0, 4), number(0, 20)};
            case "make": return new int[] {shelf(), number(3, 4), number(-1, 60)};
            case "element": return new int[] {shelf(), number(0, 30)};
            case "copy": return new int[] {shelf(), number(0, 10), shelf(), number(0, 10), number(0, 30)};
            case "heft":
            case "toss": return new int[] {shelf()};
            case "image":
            case "restore": return new int[0];
            default: return new int[] {task()};
        }
    }

    private long ofKeeper(String name, int[] a) {
        switch (name) {
            case "group": return keeper.group(a[0], a[1]);
            case "task": return keeper.task(a[0]);
            case "weight": return keeper.weight(a[0], a[1]);
            case "most": return keeper.most(a[0], a[1], a[2]);
            case "cellsOf": return keeper.cellsOf(a[0], a[1], a[2], a[3]);
            case "freeze": return keeper.freeze(a[0], a[1] == 1);
            case "move": return keeper.move(a[0], a[1]);
            case "work": return keeper.work(a[0], a[1]);
            case "worth": return keeper.worth(a[0], a[1]);
            case "run": return keeper.run(a[0]);
            case "who": return keeper.who(a[0]);
            case "ask": return keeper.ask(a[0], a[1], a[2] == 1);
            case "free": return keeper.free(a[0], a[1], a[2] == 1);
            case "back": return keeper.back(a[0]);
            case "touch": return keeper.touch(a[0]);
            case "look": return keeper.look(a[0], a[1]);
            case "about": return keeper.about(a[0], a[1]);
            case "vtime": return keeper.vtime(a[0]);
            case "pressed": return keeper.pressed(a[0], a[1] == 1, a[2]);
            case "gone": return keeper.gone(a[0], a[1]);
            case "done": return keeper.done(a[0]);
            case "even": return keeper.even(a[0]);
            case "plan": return keeper.plan(a[0], a[1]);
            case "image": return keeper.image();
            case "restore": return keeper.restore();
            case "count": return keeper.count(a[0]);
            case "keep": return keeper.keep(a[0], a[1], a[2]);
            case "make": return keeper.make(a[0], a[1], a[2]);
            case "element": return keeper.element(a[0], a[1]);
            case "copy": return keeper.copy(a[0], a[1], a[2], a[3], a[4]);
            case "heft": return keeper.heft(a[0]);
            default: return keeper.toss(a[0]);
        }
    }

    private long ofReading(String name, int[] a) {
        switch (name) {
            case "group": return reading.group(a[0], a[1]);
            case "task": return reading.task(a[0]);
            case "weight": return reading.weight(a[0], a[1]);
            case "most": return reading.most(a[0], a[1], a[2]);
            case "cellsOf": return reading.cellsOf(a[0], a[1], a[2], a[3]);
            case "freeze": return reading.freeze(a[0], a[1] == 1);
            case "move": return reading.move(a[0], a[1]);
            case "work": return reading.work(a[0], a[1]);
            case "worth": return reading.worth(a[0], a[1]);
            case "run": return reading.run(a[0]);
            case "who": return reading.who(a[0]);
            case "ask": return reading.ask(a[0], a[1], a[2] == 1);
            case "free": return reading.free(a[0], a[1], a[2] == 1);
            case "back": return reading.back(a[0]);
            case "touch": return reading.touch(a[0]);
            case "look": return reading.look(a[0], a[1]);
            case "about": return reading.about(a[0], a[1]);
            case "vtime": return reading.vtime(a[0]);
            case "pressed": return reading.pressed(a[0], a[1] == 1, a[2]);
            case "gone": return reading.gone(a[0], a[1]);
            case "done": return reading.done(a[0]);
            case "even": return reading.even(a[0]);
            case "plan": return reading.plan(a[0], a[1]);
            case "image": return reading.image();
            case "restore": return reading.restore();
            case "count": return reading.count(a[0]);
            case "keep": return reading.keep(a[0], a[1], a[2]);
            case "make": return reading.make(a[0], a[1], a[2]);
            case "element": return reading.element(a[0], a[1]);
            case "copy": return reading.copy(a[0], a[1], a[2], a[3], a[4]);
            case "heft": return reading.heft(a[0]);
            default: return reading.toss(a[0]);
        }
    }

    private String answer(boolean byKeeper, String name, int[] arguments) {
        try {
            return String.valueOf(byKeeper ? ofKeeper(name, arguments) : ofReading(name, arguments));
        } catch (IllegalArgumentException | IllegalStateException e) {
            return "throws." + e.getClass().getSimpleName();
        }
    }

    private boolean agrees(int[] tally) {
        for (int i = 0; i < CALLS; i++) {
            String name = nextName();
            int[] arguments = argumentsOf(name);
            String got = answer(true, name, arguments);
            String due = answer(false, name, arguments);
            StringBuilder call = new StringBuilder(name).append('(');
            for (int k = 0; k < arguments.length; k++) {
                call.append(k == 0 ? "" : ", ").append(arguments[k]);
            }
            calls.add(call.append(") ").append(got).toString());
            if (!got.equals(due)) {
                System.out.println(String.join("\n", calls) + ", due is " + due);
                return false;
            }
            tally[name.equals("ask") && due.equals("-3") ? 0 : name.equals("ask") && due.equals("-4") ? 1
                : name.equals("back") && !due.equals("-1") ? 2 : name.equals("move") && due.equals("0") ? 3
                : name.equals("move") && due.equals("-3") ? 4 : 5]++;
        }
        return true;
    }

    /** Arguments: how many runs, the first seed. */
    public static void main(String[] args) {
        int runs = args.length > 0 ? Integer.parseInt(args[0]) : 400;
        long seed = args.length > 1 ? Long.parseLong(args[1]) : 1;
        int[] tally = new int[6];
        for (int i = 0; i < runs; i++) {
            if (!new PlainReadingTest(seed + i).agrees(tally)) {
                System.out.println("PlainReadingTest: seed " + (seed + i) + " differs");
                System.exit(1);
            }
        }
        for (int i = 0; i < tally.length; i++) {
            if (tally[i] == 0 && runs >= 400) {
                System.out.println("PlainReadingTest: what it should reach wasn't reached: " + i);
                System.exit(1);
            }
        }
        System.out.println("PlainReadingTest: all as due");
    }
}
