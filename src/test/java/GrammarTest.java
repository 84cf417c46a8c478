/**
 * BAD PLACES against the slow reader of Grammar. One object takes more calls here than it is promised to:
 * reset brings it back to where a new one stands.
 */
public final class GrammarTest {
    private static final String CHARACTERS = "0123456789xabcds%+-*/^(),:";

    public static void main(String[] args) {
        shortLines();
        randomLines();
        Check.end();
    }

    private static void check(RationalSession session, String line) {
        session.reset();
        int want = Grammar.badPlace(line);
        int answer = Typist.enter(session, line);
        Check.that(line + ": SYNTAX", (answer == RationalSession.SYNTAX) == (want >= 0));
        Check.due(line + ": badPlace()", session.badPlace(), want);
    }

    /** Every line of at most three characters. */
    private static void shortLines() {
        RationalSession session = new RationalSession();
        int base = CHARACTERS.length() + 1;
        for (int number = 0; number < base * base * base; number++) {
            StringBuilder line = new StringBuilder();
            for (int rest = number; rest > 0; rest /= base) {
                if (rest % base > 0) {
                    line.append(CHARACTERS.charAt(rest % base - 1));
                }
            }
            check(session, line.toString());
        }
    }

    private static void randomLines() {
        RationalSession session = new RationalSession();
        Lines lines = new Lines(20261115);
        for (int i = 0; i < 30000; i++) {
            check(session, lines.mostlyBad());
        }
    }
}
