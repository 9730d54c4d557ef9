/** Counts and prints the answers that are not due; every test of the project ends by end(). */
final class Check {
    private static int wrong = 0;
    private static int asked = 0;

    private Check() {
    }

    static void due(String call, long got, long want) {
        asked++;
        if (got != want) {
            wrong++;
            if (wrong <= 40) {
                System.out.println(call + " answered " + got + ", due is " + want);
            }
        }
    }

    static void dueBits(String call, long got, double want) {
        due(call, got, Double.doubleToRawLongBits(want));
    }

    static void dueSmallBits(String call, long got, float want) {
        due(call, got, Float.floatToRawIntBits(want));
    }

    static boolean anyWrong() {
        return wrong != 0;
    }

    static void end() {
        System.out.println(wrong == 0 ? asked + " answers are as due" : wrong + " of " + asked + " answers are not as due");
        if (wrong != 0) {
            System.exit(1);
        }
    }
}
