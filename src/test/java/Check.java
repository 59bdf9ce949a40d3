/** Counts the answers that are not the ones that are due, and prints them. */
final class Check {
    private static int asked = 0;
    private static int wrong = 0;
    private static String words = "";

    private Check() {
    }

    static void due(String call, long got, long want) {
        asked++;
        if (got != want) {
            wrong++;
            System.out.println(words + call + " answered " + got + ", due is " + want);
        }
    }

    static void due(String call, boolean got, boolean want) {
        due(call, got ? 1L : 0L, want ? 1L : 0L);
    }

    /** One sentence of the document with the test of its own: its words stand before a wrong answer. */
    static void edge(String sentence, Runnable test) {
        int before = asked;
        words = "'" + sentence + "': ";
        test.run();
        due("the test asked for something", asked > before, true);
        words = "";
    }

    static void finish() {
        System.out.println(asked + " answers, " + wrong + " not as due");
        if (wrong != 0) {
            System.exit(1);
        }
    }
}
