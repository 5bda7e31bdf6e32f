import java.util.stream.IntStream;

/** Counts and prints the answers that are not as due; a test that extends it has its helpers by their short names. */
abstract class Check {
    static final int REFUSED = PriorityKernel.REFUSED;
    static final int DONE = PriorityKernel.DONE;
    static final int BLOCKED = PriorityKernel.BLOCKED;
    static final int TIMED_OUT = PriorityKernel.TIMED_OUT;
    static final long NONE = PriorityKernel.NONE;
    static final int LOWEST = Integer.MIN_VALUE;
    static final int HIGHEST = Integer.MAX_VALUE;

    static final int STATE = 0;
    static final int BASE = 1;
    static final int EFFECTIVE = 2;
    static final int RESULT = 3;
    static final int WAITS_ON = 4;
    static final int DEADLINE = 5;

    static final int IS_FREE = 0;
    static final int IS_READY = 1;
    static final int IS_BLOCKED = 2;
    static final int IS_ZOMBIE = 3;

    private static final int MOST_PRINTED = 50;
    private static int answers = 0;
    private static int wrong = 0;
    private static String sentence = "";

    /** What the answers that follow are about. */
    static void about(String words) {
        sentence = words + ": ";
    }

    static void due(String what, long got, long want) {
        answers++;
        if (got != want) {
            wrong++;
            if (wrong <= MOST_PRINTED) {
                System.out.println(sentence + what + " answered " + got + ", due is " + want);
            }
        }
    }

    static void told(PriorityKernel k, int thread, int what, long want) {
        due("tell(" + thread + ", " + what + ")", k.tell(thread, what), want);
    }

    static void runs(PriorityKernel k, int thread) {
        due("running()", k.running(), thread);
    }

    /** A kernel with slice 5, ceiling 20 and threads that are not sliced. */
    static PriorityKernel with(int... bases) {
        PriorityKernel k = new PriorityKernel(5, 20);
        for (int base : bases) {
            k.spawn(base, false);
        }
        return k;
    }

    /** Numbers too small and too large: next to the range, at the ends of int, and such as a narrower type would cut into it. */
    static int[] outside(int least, int greatest) {
        IntStream far = IntStream.of(1 << 8, 1 << 16, 1 << 31).flatMap(cut -> IntStream.of(cut + least, cut + greatest, least - cut));
        IntStream near = IntStream.of(LOWEST, -1, least - 1, greatest + 1, HIGHEST);
        return IntStream.concat(near, far).filter(n -> n < least || n > greatest).distinct().toArray();
    }

    static boolean anyWrong() {
        return wrong != 0;
    }

    static void end() {
        System.out.println(wrong == 0 ? "all " + answers + " answers are as due" : wrong + " answers are not as due");
        if (wrong != 0) {
            System.exit(1);
        }
    }
}
