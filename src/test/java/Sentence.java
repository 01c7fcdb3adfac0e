/** Runs tests that are each named after a sentence, or a row, of the document. */
final class Sentence {
    private static int held = 0;
    private static int failed = 0;

    private Sentence() {
    }

    /** The test checks the sentence, at its edges; what it is refused without expecting it is a failure too. */
    static void holds(String sentence, Runnable test) {
        int before = Check.wrongSoFar();
        try {
            test.run();
        } catch (RuntimeException e) {
            Check.due("the test", e, "an end");
        }
        if (Check.wrongSoFar() == before) {
            held++;
        } else {
            failed++;
            System.out.println("does not hold: " + sentence);
        }
    }

    static void end() {
        System.out.println(held + " sentences hold, " + failed + " do not");
        Check.end();
    }
}
