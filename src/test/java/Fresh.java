/** Checks of one line each, on a new object. */
final class Fresh {
    private Fresh() {
    }

    /** The line is good and is worked out to what has this text. */
    static void text(String line, String want) {
        RationalSession session = new RationalSession();
        Check.due(line, Typist.enter(session, line), 1);
        Check.due(line + ": text", Typist.text(session, 1), want);
    }

    /** The answer to enter: a code, or 1 for a line that has the first label. */
    static void answer(String line, int want) {
        RationalSession session = new RationalSession();
        Check.due(line, Typist.enter(session, line), want);
        Check.due(line + ": labels()", session.labels(), want > 0 ? 1 : 0);
    }

    /** The line is not good. */
    static void place(String line, int want) {
        RationalSession session = new RationalSession();
        Check.due(line, Typist.enter(session, line), RationalSession.SYNTAX);
        Check.due(line + ": badPlace()", session.badPlace(), want);
    }

    /** The line is good, whatever it is worked out to. */
    static void good(String line) {
        RationalSession session = new RationalSession();
        Check.that(line + " is good", Typist.enter(session, line) != RationalSession.SYNTAX);
        Check.due(line + ": badPlace()", session.badPlace(), -1);
    }

    /** Two lines have one FORM, and with it one SHAPE NUMBER and one text. */
    static void same(String one, String other) {
        RationalSession session = new RationalSession();
        Check.due(one, Typist.enter(session, one), 1);
        Check.due(other, Typist.enter(session, other), 2);
        Check.due(one + " and " + other + ": shape(2)", session.shape(2), 1);
        Check.due(one + " and " + other + ": text", Typist.text(session, 2), Typist.text(session, 1));
    }
}
