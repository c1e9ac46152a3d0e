/** The sentence of the document that is being looked at, and how many answers were not as due. */
final class Checks {
    private static String sentence = "";
    private static int wrong = 0;

    private Checks() {
    }

    static void sentence(String words, Runnable test) {
        sentence = words;
        test.run();
    }

    static void due(String call, long got, long want) {
        hold(call + " answered " + got + ", due is " + want, got == want);
    }

    static void hold(String what, boolean holds) {
        if (!holds) {
            wrong++;
            System.out.println("'" + sentence + "': " + what);
        }
    }

    static void finish() {
        System.out.println(wrong == 0 ? "all answers are as due" : wrong + " answers are not as due");
        if (wrong != 0) {
            System.exit(1);
        }
    }
}
