/** Counts wrong answers of a test and ends it with exit code 1 if there was one. */
final class Checks {
    private final String test;
    private int wrong;

    Checks(String test) {
        this.test = test;
    }

    void due(String call, long got, long want) {
        if (got != want) {
            wrong++;
            System.out.println(test + ": " + call + " answered " + got + ", due is " + want);
        }
    }

    /** 0 nothing is thrown, 1 IllegalArgumentException, 2 IllegalStateException. */
    void elementThrows(ShareKeeper keeper, int d, int i, int want) {
        int thrown = 0;
        try {
            keeper.element(d, i);
        } catch (IllegalArgumentException e) {
            thrown = 1;
        } catch (IllegalStateException e) {
            thrown = 2;
        }
        due("element(" + d + ", " + i + ") throws", thrown, want);
    }

    void end() {
        System.out.println(test + ": " + (wrong == 0 ? "all as due" : wrong + " not as due"));
        if (wrong != 0) {
            System.exit(1);
        }
    }
}
