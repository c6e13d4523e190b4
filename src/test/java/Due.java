/** Compares answers with those that are due, and ends a test with the exit code that tells. */
final class Due {
    private final String test;
    private int checked = 0;
    private int wrong = 0;

    Due(String test) {
        this.test = test;
    }

    void is(String call, long got, long want) {
        checked++;
        if (got != want) {
            wrong++;
            System.out.println(test + ": " + call + " answered " + got + ", due is " + want);
        }
    }

    void holds(String what, boolean so) {
        checked++;
        if (!so) {
            wrong++;
            System.out.println(test + ": it does not hold that " + what);
        }
    }

    void order(String when, StrideHeap x, int... clients) {
        for (int k = 0; k < clients.length; k++) {
            is(when + ": order(" + k + ")", x.order(k), clients[k]);
        }
        is(when + ": order(" + clients.length + ")", x.order(clients.length), -1);
    }

    boolean anyWrong() {
        return wrong != 0;
    }

    void end() {
        System.out.println(test + ": " + checked + " answers looked at, " + wrong + " wrong");
        if (wrong != 0) {
            System.exit(1);
        }
    }
}
