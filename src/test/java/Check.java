/** Counts and prints the answers that are not as due. */
final class Check {
    private static final int MOST_PRINTED = 50;
    private static int answers = 0;
    private static int wrong = 0;

    private Check() {
    }

    static void due(String what, long got, long want) {
        answers++;
        if (got != want) {
            wrong++;
            if (wrong <= MOST_PRINTED) {
                System.out.println(what + " answered " + got + ", due is " + want);
            }
        }
    }

    static boolean anyWrong() {
        return wrong != 0;
    }

    static void end() {
        System.out.println(wrong == 0 ? "all " + answers + " answers are as due" : wrong + " answers are not as due");
        if (wrong != 0) {
            System.exit(1);
        }
    }
}
