/** Counts wrong answers of a test and ends it with exit code 1 if there was one. */
final class Checks {
    /** A call with one of its arguments left open. */
    interface OfOne {
        long at(int n);
    }

    private static final int[] ENDS_OF_INT = {Integer.MIN_VALUE, Integer.MIN_VALUE + 1,
        Integer.MAX_VALUE - 1, Integer.MAX_VALUE};

    private final String test;
    private int wrong;

    Checks(String test) {
        this.test = test;
    }

    void due(String call, long got, long want) {
        if (got != want) {
            wrong++;
            System.out.println(test + ": " + call + " answered " + got + ", due is " + want);
        }
    }

    /** What is lowest .. highest is taken at both its ends; the next ones beyond and those of int are -1. */
    void range(String name, int lowest, int highest, OfOne call) {
        refusedAt(name, call, lowest - 1);
        refusedAt(name, call, highest + 1);
        for (int end : ENDS_OF_INT) {
            refusedAt(name, call, end);
        }
        takenAt(name, call, highest);
        takenAt(name, call, lowest);
    }

    private void refusedAt(String name, OfOne call, int n) {
        due(name + " " + n, call.at(n), -1);
    }

    private void takenAt(String name, OfOne call, int n) {
        long got = call.at(n);
        due(name + " " + n + " is taken, it answered " + got, got == -1 ? 0 : 1, 1);
    }

    /** 0 nothing is thrown, 1 IllegalArgumentException, 2 IllegalStateException. */
    void elementThrows(ShareKeeper keeper, int d, int i, int want) {
        int thrown = 0;
        try {
            keeper.element(d, i);
        } catch (IllegalArgumentException e) {
            thrown = 1;
        } catch (IllegalStateException e) {
            thrown = 2;
        }
        due("element(" + d + ", " + i + ") throws", thrown, want);
    }

    void end() {
        System.out.println(test + ": " + (wrong == 0 ? "all as due" : wrong + " not as due"));
        if (wrong != 0) {
            System.exit(1);
        }
    }
}
