/** Counts and prints the answers that are not the ones that are due. */
public final class Due {
    private static String about = "";
    private static int asked = 0;
    private static int wrong = 0;

    private Due() {
    }

    static void about(String text) {
        about = text;
    }

    static void same(String call, long got, long want) {
        asked++;
        if (got != want) {
            wrong++;
            System.out.println(about + ": " + call + " answered " + got + ", due is " + want);
        }
    }

    static void holds(String what, boolean truth) {
        same(what, truth ? 1 : 0, 1);
    }

    static int asked() {
        return asked;
    }

    static void end() {
        System.out.println(asked + " answers, " + wrong + " of them not as due");
        if (wrong != 0 || asked == 0) {
            System.exit(1);
        }
    }
}
