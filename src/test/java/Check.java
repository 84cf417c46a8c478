/** Counts and prints the answers that are not the ones due. */
final class Check {
    private static int asked = 0;
    private static int askedOfSentence = 0;
    private static int wrong = 0;
    private static String sentence = "";

    private Check() {
    }

    /** The document's sentence that the answers from here on are due by. */
    static void sentence(String heading, String words) {
        endSentence();
        sentence = heading + ", \"" + words + "\": ";
    }

    static void due(String what, long got, long want) {
        count();
        if (got != want) {
            fail(what + " answered " + got + ", due is " + want);
        }
    }

    static void due(String what, String got, String want) {
        count();
        if (!got.equals(want)) {
            fail(what + " answered \"" + got + "\", due is \"" + want + "\"");
        }
    }

    static void that(String what, boolean holds) {
        due(what, holds ? 1 : 0, 1);
    }

    private static void count() {
        asked++;
        askedOfSentence++;
    }

    private static void fail(String message) {
        wrong++;
        System.out.println(sentence + message);
    }

    /** A sentence without a single answer would stand untested. */
    private static void endSentence() {
        if (!sentence.isEmpty() && askedOfSentence == 0) {
            fail("nothing was asked");
        }
        askedOfSentence = 0;
    }

    /** Ends the test: exit code 1 if an answer was wrong, or if nothing was asked at all. */
    static void end() {
        endSentence();
        System.out.println(asked + " answers, " + wrong + " not as due");
        if (wrong != 0 || asked == 0) {
            System.exit(1);
        }
    }
}
