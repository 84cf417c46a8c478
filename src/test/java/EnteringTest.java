/** Promises 5, 6 and 16: enter, badPlace and reset, sentence by sentence. */
public final class EnteringTest {
    private static final int REFUSED = RationalSession.REFUSED;
    private static final int FULL = RationalSession.FULL;
    private static final int SYNTAX = RationalSession.SYNTAX;
    private static final int UNBOUND = RationalSession.UNBOUND;
    private static final int DIVIDE = RationalSession.DIVIDE;
    private static final int TOO_BIG = RationalSession.TOO_BIG;

    public static void main(String[] args) {
        lineIsEmptyAfterwards();
        fullFirst();
        syntaxBeforeTroubles();
        firstTrouble();
        badPlaceIsKept();
        nothingChangesAfterFull();
        nothingElseChangesAfterSyntax();
        nothingChangesAfterTroubles();
        nextLabel();
        nameIsBound();
        labelIsAnswered();
        lastBadPlace();
        noBadPlaceYet();
        resetForgets();
        resetMakesRoom();
        Check.end();
    }

    private static void sentence(int promise, String words) {
        Check.sentence("Promise " + promise, words);
    }

    private static void lineIsEmptyAfterwards() {
        sentence(5, "Works the line out; the line is empty afterwards in every case");
        String[] lines = {"x", "a:x", "", "x+", "a", "1/0", "x*x^12", Sessions.FULL_LINE};
        int[] answers = {1, 1, SYNTAX, SYNTAX, UNBOUND, DIVIDE, TOO_BIG, SYNTAX};
        for (int i = 0; i < lines.length; i++) {
            RationalSession s = new RationalSession();
            Check.due(lines[i], Typist.enter(s, lines[i]), answers[i]);
            checkEmptyLine(lines[i], s);
            RationalSession full = Sessions.full();
            Check.due(lines[i] + " after 40", Typist.enter(full, lines[i]), FULL);
            checkEmptyLine(lines[i] + " after 40", full);
        }
    }

    private static void checkEmptyLine(String line, RationalSession s) {
        Check.due(line + ": line(-1)", s.line(-1), 0);
        Check.due(line + ": line(0)", s.line(0), REFUSED);
        Check.due(line + ": back()", s.back(), REFUSED);
    }

    private static void fullFirst() {
        sentence(5, "Tested in this order: 40 labels are given: FULL");
        RationalSession s = new RationalSession();
        for (int i = 1; i <= 39; i++) {
            Typist.enter(s, "1");
        }
        Check.due("with 39", Typist.enter(s, "x+"), SYNTAX);
        Check.due("with 39", Typist.enter(s, "%40"), UNBOUND);
        Check.due("with 39", Typist.enter(s, "c:%39"), 40);
        for (String line : new String[] {"x", "a:x", "", "x+", "x)", "%40", "%41", "a", "1/0", "x*x^12"}) {
            Check.due("with 40: " + line, Typist.enter(s, line), FULL);
        }
    }

    private static void syntaxBeforeTroubles() {
        sentence(5, "not a good line: SYNTAX");
        RationalSession s = new RationalSession();
        for (String line : new String[] {"", "a+", "a)", "%9)", "1/0)", "1/0+", "x*x^12)", "x*x^12,", "a:", "(((((((((1/0"}) {
            Check.due("before a trouble: " + line, Typist.enter(s, line), SYNTAX);
        }
    }

    private static void firstTrouble() {
        sentence(5, "the first trouble's UNBOUND, DIVIDE or TOO_BIG");
        Fresh.answer("a+1/0+x*x^12", UNBOUND);
        Fresh.answer("a+x*x^12+1/0", UNBOUND);
        Fresh.answer("1/0+x*x^12+a", DIVIDE);
        Fresh.answer("1/0+a+x*x^12", DIVIDE);
        Fresh.answer("x*x^12+1/0+a", TOO_BIG);
        Fresh.answer("x*x^12+a+1/0", TOO_BIG);
    }

    private static void badPlaceIsKept() {
        sentence(5, "and the LAST BAD PLACE becomes its BAD PLACE");
        RationalSession s = Sessions.used();
        Check.due("the place before", s.badPlace(), 2);
        Check.due("behind x^2", Typist.enter(s, "+)"), SYNTAX);
        Check.due("its place", s.badPlace(), 4);
        Check.due("an empty line", s.enter(), SYNTAX);
        Check.due("its place", s.badPlace(), 0);
    }

    private static void nothingChangesAfterFull() {
        sentence(5, "After these nothing else changes (FULL)");
        RationalSession s = Sessions.full();
        String before = Snapshot.of(s);
        for (String line : new String[] {"b:x", "a:7", "x+", ")", "1/0", "c", ""}) {
            Check.due(line, Typist.enter(s, line), FULL);
            Check.due("after " + line, Snapshot.of(s), before);
        }
    }

    private static void nothingElseChangesAfterSyntax() {
        sentence(5, "After these nothing else changes (SYNTAX)");
        RationalSession s = Sessions.used();
        s.enter();
        String before = Snapshot.of(s);
        for (String line : new String[] {"b:", "a:", "x+", "7*", "b+", "c:"}) {
            Check.due(line, Typist.enter(s, line), SYNTAX);
            Check.due("after " + line, Snapshot.of(s), before);
        }
        Check.due("b is what it was", Typist.enter(s, "b-%1"), 5);
        Check.due("b is what it was", Typist.text(s, 5), "0");
    }

    private static void nothingChangesAfterTroubles() {
        sentence(5, "After these nothing else changes (UNBOUND, DIVIDE, TOO_BIG)");
        RationalSession s = Sessions.used();
        s.enter();
        String before = Snapshot.of(s);
        String[] lines = {"b:x+a", "a:c", "b:%9", "a:x/0", "b:0^-1", "b:s(1/x,0)", "b:x*x^12", "c:(x^7)^2"};
        int[] answers = {UNBOUND, UNBOUND, UNBOUND, DIVIDE, DIVIDE, DIVIDE, TOO_BIG, TOO_BIG};
        for (int i = 0; i < lines.length; i++) {
            Check.due(lines[i], Typist.enter(s, lines[i]), answers[i]);
            Check.due("after " + lines[i], Snapshot.of(s), before);
        }
        Check.due("b is what it was", Typist.enter(s, "b-%1"), 5);
        Check.due("b is what it was", Typist.text(s, 5), "0");
    }

    private static void nextLabel() {
        sentence(5, "Else the result has the next label");
        RationalSession s = new RationalSession();
        Typist.enter(s, "x");
        Typist.enter(s, "1/0");
        Typist.enter(s, "x+");
        Typist.enter(s, "x+1");
        Check.due("label 1", Typist.text(s, 1), "x");
        Check.due("label 2", Typist.text(s, 2), "x+1");
        Check.due("label 3", s.text(3, 0), REFUSED);
    }

    private static void nameIsBound() {
        sentence(5, "a name before : is bound to the FORM");
        for (int name = 0; name < 3; name++) {
            RationalSession s = new RationalSession();
            Typist.enter(s, (char) ('a' + name) + ":x+1");
            for (int other = 0; other < 3; other++) {
                Check.due("bound(" + other + ")", s.bound(other), other == name ? 1 : 0);
            }
        }
        RationalSession s = new RationalSession();
        Typist.enter(s, "a:x+1");
        Typist.enter(s, "b:a");
        Typist.enter(s, "a:a^2");
        Typist.enter(s, "a");
        Typist.enter(s, "b");
        Check.due("bound anew, from itself", Typist.text(s, 4), "x^2+2*x+1");
        Check.due("the FORM, not the name", Typist.text(s, 5), "x+1");
        Check.due("a line without : binds nothing", s.bound(2), 0);
    }

    private static void labelIsAnswered() {
        sentence(5, "and the label is answered");
        RationalSession s = new RationalSession();
        for (int i = 1; i <= 40; i++) {
            Check.due("line " + i, Typist.enter(s, i % 2 == 0 ? "a:x" : "x"), i);
        }
        Check.due("line 41", Typist.enter(s, "x"), FULL);
    }

    private static void lastBadPlace() {
        sentence(6, "The LAST BAD PLACE");
        RationalSession s = new RationalSession();
        Typist.enter(s, "x+");
        Check.due("its place", s.badPlace(), 2);
        Check.due("asked again", s.badPlace(), 2);
        Typist.enter(s, "x");
        Check.due("a good line keeps it", s.badPlace(), 2);
        Typist.enter(s, "1/0");
        Check.due("a trouble keeps it", s.badPlace(), 2);
        Typist.type(s, ")))");
        Check.due("a line not entered keeps it", s.badPlace(), 2);
        s.enter();
        Check.due("the last one counts", s.badPlace(), 0);
        Typist.enter(s, "x+x+x+x+x+x+x+x+x+x+x+x+x+x+x+x+");
        Check.due("the greatest", s.badPlace(), 32);
        Typist.enter(s, "xx");
        Check.due("a smaller one after it", s.badPlace(), 1);
    }

    private static void noBadPlaceYet() {
        sentence(6, "-1 if no line was SYNTAX yet");
        RationalSession s = new RationalSession();
        Check.due("at first", s.badPlace(), -1);
        Typist.enter(s, "x");
        Check.due("after a good line", s.badPlace(), -1);
        Typist.enter(s, "1/0");
        Check.due("after a trouble", s.badPlace(), -1);
        Typist.type(s, "))");
        Check.due("before enter()", s.badPlace(), -1);
        RationalSession full = Sessions.full();
        Typist.enter(full, "x+");
        Check.due("after FULL", full.badPlace(), -1);
    }

    private static void resetForgets() {
        sentence(16, "Forgets all labels, SHAPE NUMBERS, names, the line and the LAST BAD PLACE");
        RationalSession s = new RationalSession();
        Typist.enter(s, "a:x");
        Typist.enter(s, "b:x+1");
        Typist.enter(s, "c:x^2");
        Typist.enter(s, "x+");
        Typist.type(s, "x+1");
        s.reset();
        Check.due("as a new one", Snapshot.of(s), Snapshot.of(new RationalSession()));
        Sessions.checkEmpty("after reset", s);
        Check.due("labels start again", Typist.enter(s, "x^2"), 1);
        Check.due("shape numbers start again", s.shape(1), 1);
        Check.due("shapes()", s.shapes(), 1);
        for (int name = 0; name < 3; name++) {
            Check.due("names stay forgotten", s.bound(name), 0);
            Check.due("names stay forgotten", Typist.enter(s, "" + (char) ('a' + name)), UNBOUND);
        }
        Check.due("a label of before", Typist.enter(s, "%2"), UNBOUND);
        Check.due("its text", s.text(2, 0), REFUSED);
    }

    private static void resetMakesRoom() {
        sentence(16, "Forgets all labels .. the line (when they are full, and when there are none)");
        RationalSession s = Sessions.full();
        Typist.type(s, Sessions.FULL_LINE);
        s.reset();
        Sessions.checkEmpty("after reset of a full one", s);
        for (int i = 1; i <= 40; i++) {
            Check.due("room after reset", Typist.enter(s, i + ""), i);
            Check.due("its text", Typist.text(s, i), i + "");
        }
        Check.due("full again", Typist.enter(s, "1"), FULL);
        RationalSession none = new RationalSession();
        none.reset();
        none.reset();
        Sessions.checkEmpty("after reset of a new one", none);
    }
}
