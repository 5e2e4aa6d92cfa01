/** Runs one test a sentence of the document, each by itself, and tells which sentence does not hold. */
final class Sentences {
    interface Test {
        void run();
    }

    private static String now = "";
    private static int run = 0;
    private static int wrong = 0;
    private static boolean holds;

    /** The sentence begins with the number of its promise, or with "terms". */
    static void of(String sentence, Test test) {
        now = sentence;
        holds = true;
        run++;
        try {
            test.run();
        } catch (RuntimeException e) {
            fails("the test ended by " + e);
        }
        if (!holds) {
            wrong++;
        }
    }

    static void fails(String why) {
        holds = false;
        System.out.println(now + ": " + why);
    }

    static void end(String test) {
        System.out.println(test + ": " + run + " sentences, " + wrong + " do not hold");
        if (wrong != 0 || run == 0) {
            System.exit(1);
        }
    }
}
