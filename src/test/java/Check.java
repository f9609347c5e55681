import java.util.function.IntUnaryOperator;

/** Counts what is not as due; a test's main method calls end() as its last act. */
final class Check {
    private int wrong = 0;
    private int asked = 0;

    void due(String call, long got, long want) {
        asked++;
        if (got != want) {
            wrong++;
            System.out.println(call + " answered " + got + ", due is " + want);
        }
    }

    void hold(String what, boolean holds) {
        asked++;
        if (!holds) {
            wrong++;
            System.out.println("does not hold: " + what);
        }
    }

    /**
     * A call takes all numbers from least to most: both ends are taken, the ones just outside and
     * the outermost of all are refused. The call is to be made on an object of its own each time.
     */
    void range(String what, int least, int most, int refused, IntUnaryOperator call) {
        hold(what + " takes " + least, call.applyAsInt(least) != refused);
        hold(what + " takes " + most, call.applyAsInt(most) != refused);
        int[] outside = {least - 1, most + 1, Integer.MIN_VALUE, Integer.MAX_VALUE};
        for (int number : outside) {
            due(what + " with " + number, call.applyAsInt(number), refused);
        }
    }

    boolean isClean() {
        return wrong == 0;
    }

    void end() {
        System.out.println(asked + " asked, " + wrong + " wrong");
        if (wrong != 0) {
            System.exit(1);
        }
    }
}
