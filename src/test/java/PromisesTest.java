/** The document's promises, sentence by sentence: ordinary inputs, the edges it names, and wrong inputs. */
public final class PromisesTest {
    private static final int REFUSED = RationalSession.REFUSED;
    private static final int FULL = RationalSession.FULL;
    private static final int SYNTAX = RationalSession.SYNTAX;
    private static final int UNBOUND = RationalSession.UNBOUND;
    private static final int DIVIDE = RationalSession.DIVIDE;
    private static final int TOO_BIG = RationalSession.TOO_BIG;
    private static final int POLE = RationalSession.POLE;

    private static final int LEAST = Integer.MIN_VALUE;
    private static final int MOST = Integer.MAX_VALUE;
    private static final String ALLOWED = "0123456789xabcds%+-*/^(),:";
    private static final String FULL_LINE = "x+x+x+x+x+x+x+x+x+x+x+x+x+x+x+x:";

    public static void main(String[] args) {
        newObject();
        typing();
        typingEight();
        takingBack();
        entering();
        enteringInOrder();
        enteringChangesNothingElse();
        enteringGood();
        badPlaces();
        degrees();
        coefficients();
        shapes();
        labels();
        names();
        values();
        texts();
        lines();
        resetting();
        Check.end();
    }

    private static void promise(int number, String words) {
        Check.sentence("Promise " + number, words);
    }

    /** Three labels of two shapes, the name b, a BAD PLACE of 2, and a line of three characters. */
    private static RationalSession used() {
        RationalSession s = new RationalSession();
        Typist.enter(s, "x+");
        Typist.enter(s, "b:(x^2+3)/(2*x-10)");
        Typist.enter(s, "0");
        Typist.enter(s, "b");
        Typist.type(s, "x^2");
        return s;
    }

    private static RationalSession full() {
        RationalSession s = new RationalSession();
        for (int i = 1; i <= 40; i++) {
            Typist.enter(s, "b:" + i + "*x");
        }
        return s;
    }

    private static int[] wrongLabels(int given) {
        return new int[] {0, -1, given + 1, given + 40, -40, 65536 + 1, 256 + 1, LEAST, LEAST + 1, MOST};
    }

    private static void newObject() {
        promise(1, "An empty line, no labels");
        checkEmpty("new", new RationalSession());
        RationalSession other = used();
        checkEmpty("new, beside another", new RationalSession());
        Check.due("the other one's labels", other.labels(), 3);
    }

    private static void checkEmpty(String when, RationalSession s) {
        Check.due(when + ": line(-1)", s.line(-1), 0);
        Check.due(when + ": line(0)", s.line(0), REFUSED);
        Check.due(when + ": labels()", s.labels(), 0);
        Check.due(when + ": shapes()", s.shapes(), 0);
        Check.due(when + ": badPlace()", s.badPlace(), -1);
        for (int name = 0; name < 3; name++) {
            Check.due(when + ": bound(" + name + ")", s.bound(name), 0);
        }
        for (int label : wrongLabels(0)) {
            checkNoLabel(when, s, label);
        }
        Check.due(when + ": back()", s.back(), REFUSED);
        for (String line : new String[] {"a", "b", "c", "x+b", "%1", "%2", "%40"}) {
            Check.due(when + ": " + line, Typist.enter(s, line), UNBOUND);
        }
    }

    private static void checkNoLabel(String when, RationalSession s, int label) {
        String what = when + ", label " + label + ": ";
        Check.due(what + "shape", s.shape(label), REFUSED);
        Check.due(what + "degree of N", s.degree(label, false), REFUSED);
        Check.due(what + "degree of D", s.degree(label, true), REFUSED);
        Check.due(what + "coefficient of N", s.coefficient(label, false, 0), REFUSED);
        Check.due(what + "coefficient of D", s.coefficient(label, true, 0), REFUSED);
        Check.due(what + "value", s.value(label, 0), REFUSED);
        Check.due(what + "text", s.text(label, 0), REFUSED);
    }

    private static void typing() {
        promise(2, "Adds a character (its code) to the line");
        for (char c : ALLOWED.toCharArray()) {
            RationalSession s = new RationalSession();
            Check.due("type(" + c + ")", s.type(c), 1);
            Check.due("line(0)", s.line(0), c);
        }
        promise(2, "Not one of the line's characters: REFUSED");
        RationalSession s = new RationalSession();
        for (int c = -300; c < 700; c++) {
            if (c <= 0 || c > 127 || ALLOWED.indexOf(c) < 0) {
                Check.due("type(" + c + ")", s.type(c), REFUSED);
            }
        }
        for (int c : new int[] {65536 + 'x', 256 + 'x', 'x' - 256, 'x' - 65536, 'x' | LEAST, LEAST, MOST, 'X', 'A', ' ', 0}) {
            Check.due("type(" + c + ")", s.type(c), REFUSED);
        }
        promise(2, "else, the line has 32: FULL");
        RationalSession atEnd = new RationalSession();
        Typist.type(atEnd, FULL_LINE.substring(0, 31));
        Check.due("a 32nd", atEnd.type('x'), 32);
        for (char c : ALLOWED.toCharArray()) {
            Check.due("a 33rd: " + c, atEnd.type(c), FULL);
        }
        for (int c : new int[] {'y', ' ', 0, -1, 65536 + 'x', LEAST, MOST}) {
            Check.due("REFUSED comes first: " + c, atEnd.type(c), REFUSED);
        }
        Check.due("room again", atEnd.back(), 31);
        Check.due("a 32nd again", atEnd.type('1'), 32);
        typingChangesNothing();
        promise(2, "Answers the line's length");
        RationalSession counted = new RationalSession();
        for (int i = 0; i < 32; i++) {
            Check.due("character " + i, counted.type(FULL_LINE.charAt(i)), i + 1);
        }
        Check.due("all are there", Typist.line(counted), FULL_LINE);
    }

    private static void typingChangesNothing() {
        promise(2, "both change nothing");
        RationalSession s = used();
        String before = Snapshot.of(s);
        s.type('y');
        s.type(0);
        s.type(MOST);
        Check.due("after REFUSED", Snapshot.of(s), before);
        Typist.type(s, FULL_LINE.substring(3));
        before = Snapshot.of(s);
        s.type('x');
        Check.due("after FULL", Snapshot.of(s), before);
        s.type('y');
        Check.due("after REFUSED on a full line", Snapshot.of(s), before);
    }

    private static void typingEight() {
        promise(3, "The eight bytes of the number, highest first");
        RationalSession s = new RationalSession();
        Check.due("eight", s.types(Typist.pack("s(x,1/x)")), 8);
        Check.due("eight stand", Typist.line(s), "s(x,1/x)");
        Check.due("enter()", s.enter(), 1);
        Check.due("its text", Typist.text(s, 1), "(1)/(x)");
        promise(3, "those that are 0 left out");
        Check.due("types(0)", s.types(0), 0);
        Check.due("between", s.types((long) '+' << 56 | (long) '7' << 24 | 'x'), 3);
        Check.due("the line", Typist.line(s), "+7x");
        for (int place = 0; place < 8; place++) {
            s.reset();
            Check.due("byte " + place, s.types((long) 'x' << 8 * place), 1);
            Check.due("byte " + place, Typist.line(s), "x");
        }
        promise(3, "at the first that is REFUSED or FULL this stops, those before it stay, and that answer is given");
        s.reset();
        Check.due("the third is wrong", s.types(Typist.pack("1+y+2")), REFUSED);
        Check.due("the first two stay", Typist.line(s), "1+");
        Check.due("the first is wrong", s.types(Typist.pack("yxxxxxxx")), REFUSED);
        Check.due("the last is wrong", s.types(Typist.pack("1234567y")), REFUSED);
        Check.due("seven stay", Typist.line(s), "1+1234567");
        Check.due("all bits", s.types(-1L), REFUSED);
        Check.due("the least number", s.types(Long.MIN_VALUE), REFUSED);
        Check.due("the greatest number", s.types(Long.MAX_VALUE), REFUSED);
        Check.due("a high byte behind", s.types((long) 'a' << 56 | 0xF8L << 48 | 'b'), REFUSED);
        Check.due("it stopped", Typist.line(s), "1+1234567a");
        typingEightOverTheEnd();
        promise(3, "Answers the line's length");
        RationalSession counted = new RationalSession();
        for (int length = 8; length <= 32; length += 8) {
            Check.due("types", counted.types(Typist.pack(FULL_LINE.substring(length - 8, length))), length);
        }
        Check.due("all are there", Typist.line(counted), FULL_LINE);
        Check.due("types(0) on a full line", counted.types(0), 32);
    }

    private static void typingEightOverTheEnd() {
        RationalSession s = new RationalSession();
        Typist.type(s, FULL_LINE.substring(0, 29));
        Check.due("over the end", s.types(Typist.pack("12345")), FULL);
        Check.due("the first three stay", Typist.line(s), FULL_LINE.substring(0, 29) + "123");
        String before = Snapshot.of(s);
        Check.due("full", s.types(Typist.pack("x")), FULL);
        Check.due("wrong on a full line", s.types(Typist.pack("yx")), REFUSED);
        Check.due("full before a wrong one", s.types(Typist.pack("xy")), FULL);
        Check.due("a full line stays", Snapshot.of(s), before);
        s.back();
        Check.due("one fits, one is wrong", s.types(Typist.pack("4y")), REFUSED);
        Check.due("one fits, one does not", s.types(Typist.pack("5")), FULL);
        Check.due("the one that fits", s.line(31), '4');
    }

    private static void takingBack() {
        promise(4, "Takes the last character away");
        RationalSession s = used();
        String before = Snapshot.withoutLine(s);
        s.back();
        Check.due("the last went", Typist.line(s), "x^");
        Check.due("line(2)", s.line(2), REFUSED);
        Check.due("nothing else changes", Snapshot.withoutLine(s), before);
        Typist.type(s, "3");
        Check.due("another in its place", Typist.line(s), "x^3");
        Check.due("the line without it is worked out", s.enter(), 4);
        Check.due("its text", Typist.text(s, 4), "x^3");
        promise(4, "The line is empty: REFUSED");
        before = Snapshot.of(s);
        Check.due("after enter()", s.back(), REFUSED);
        Check.due("again", s.back(), REFUSED);
        Check.due("nothing changes", Snapshot.of(s), before);
        Check.due("on a new object", new RationalSession().back(), REFUSED);
        Check.due("the next character is the first", s.type('x'), 1);
        promise(4, "Answers the length left");
        RationalSession counted = new RationalSession();
        Typist.type(counted, FULL_LINE);
        for (int left = 31; left >= 0; left--) {
            Check.due("back()", counted.back(), left);
            Check.due("length", counted.line(-1), left);
        }
        Check.due("back() at the end", counted.back(), REFUSED);
    }

    private static void entering() {
        promise(5, "Works the line out; the line is empty afterwards in every case");
        String[] lines = {"x", "a:x", "", "x+", "a", "1/0", "x*x^12", FULL_LINE};
        int[] answers = {1, 1, SYNTAX, SYNTAX, UNBOUND, DIVIDE, TOO_BIG, SYNTAX};
        for (int i = 0; i < lines.length; i++) {
            RationalSession s = new RationalSession();
            Check.due(lines[i], Typist.enter(s, lines[i]), answers[i]);
            checkEmptyLine(lines[i], s);
            RationalSession full = full();
            Check.due(lines[i] + " after 40", Typist.enter(full, lines[i]), FULL);
            checkEmptyLine(lines[i] + " after 40", full);
        }
    }

    private static void checkEmptyLine(String line, RationalSession s) {
        Check.due(line + ": line(-1)", s.line(-1), 0);
        Check.due(line + ": line(0)", s.line(0), REFUSED);
        Check.due(line + ": back()", s.back(), REFUSED);
    }

    private static void enteringInOrder() {
        promise(5, "Tested in this order: 40 labels are given: FULL");
        RationalSession s = new RationalSession();
        for (int i = 1; i <= 39; i++) {
            Typist.enter(s, "1");
        }
        Check.due("with 39", Typist.enter(s, "x+"), SYNTAX);
        Check.due("with 39", Typist.enter(s, "%40"), UNBOUND);
        Check.due("with 39", Typist.enter(s, "c:%39"), 40);
        for (String line : new String[] {"x", "a:x", "", "x+", "x)", "%40", "%41", "a", "1/0", "x*x^12"}) {
            Check.due("with 40: " + line, Typist.enter(s, line), FULL);
        }
        Check.due("no new BAD PLACE", s.badPlace(), 2);
        promise(5, "not a good line: SYNTAX");
        RationalSession t = new RationalSession();
        for (String line : new String[] {"", "a+", "a)", "%9)", "1/0)", "1/0+", "x*x^12)", "x*x^12,", "a:", "(((((((((1/0"}) {
            Check.due("before a trouble: " + line, Typist.enter(t, line), SYNTAX);
        }
        promise(5, "the first trouble's UNBOUND, DIVIDE or TOO_BIG");
        Check.due("UNBOUND", Typist.enter(t, "a+1/0+x*x^12"), UNBOUND);
        Check.due("DIVIDE", Typist.enter(t, "1/0+x*x^12+a"), DIVIDE);
        Check.due("TOO_BIG", Typist.enter(t, "x*x^12+1/0+a"), TOO_BIG);
        Check.due("no label", t.labels(), 0);
    }

    private static void enteringChangesNothingElse() {
        promise(5, "and the LAST BAD PLACE becomes its BAD PLACE");
        RationalSession s = used();
        s.enter();
        String before = Snapshot.withoutLine(s);
        Check.due("the place before", s.badPlace(), 2);
        Check.due("a:a+b)", Typist.enter(s, "b:x+b)"), SYNTAX);
        Check.due("its place", s.badPlace(), 5);
        promise(5, "After these nothing else changes");
        Typist.enter(s, "x+");
        Check.due("after SYNTAX", Snapshot.withoutLine(s), before);
        for (String line : new String[] {"b:x+a", "a:c", "b:%9", "a:x/0", "b:0^-1", "b:s(1/x,0)", "b:x*x^12", "c:(x^7)^2"}) {
            Check.that(line + " has a trouble", Typist.enter(s, line) <= UNBOUND);
            Check.due("after " + line, Snapshot.of(s), "line  of 0, " + before);
        }
        Check.due("b is what it was", Typist.enter(s, "b-%1"), 5);
        Check.due("b is what it was", Typist.text(s, 5), "0");
        RationalSession full = full();
        before = Snapshot.of(full);
        for (String line : new String[] {"b:x", "a:7", "x+", "1/0", ""}) {
            Check.due(line, Typist.enter(full, line), FULL);
            Check.due("after FULL", Snapshot.of(full), before);
        }
    }

    private static void enteringGood() {
        promise(5, "Else the result has the next label");
        RationalSession s = new RationalSession();
        Typist.enter(s, "x");
        Typist.enter(s, "1/0");
        Typist.enter(s, "x+");
        Typist.enter(s, "x+1");
        Check.due("label 1", Typist.text(s, 1), "x");
        Check.due("label 2", Typist.text(s, 2), "x+1");
        Check.due("label 3", s.text(3, 0), REFUSED);
        promise(5, "a name before : is bound to the FORM");
        for (int name = 0; name < 3; name++) {
            RationalSession t = new RationalSession();
            Typist.enter(t, (char) ('a' + name) + ":x+1");
            for (int other = 0; other < 3; other++) {
                Check.due("bound(" + other + ")", t.bound(other), other == name ? 1 : 0);
            }
        }
        RationalSession t = new RationalSession();
        Typist.enter(t, "a:x+1");
        Typist.enter(t, "b:a");
        Typist.enter(t, "a:a^2");
        Typist.enter(t, "a");
        Typist.enter(t, "b");
        Check.due("bound anew, from itself", Typist.text(t, 4), "x^2+2*x+1");
        Check.due("the FORM, not the name", Typist.text(t, 5), "x+1");
        promise(5, "and the label is answered");
        RationalSession counted = new RationalSession();
        for (int i = 1; i <= 40; i++) {
            Check.due("line " + i, Typist.enter(counted, i % 2 == 0 ? "a:x" : "x"), i);
        }
        Check.due("line 41", Typist.enter(counted, "x"), FULL);
    }

    private static void badPlaces() {
        promise(6, "The LAST BAD PLACE");
        RationalSession s = new RationalSession();
        Typist.enter(s, "x+");
        Check.due("its place", s.badPlace(), 2);
        Check.due("asked again", s.badPlace(), 2);
        Typist.enter(s, "x");
        Check.due("a good line keeps it", s.badPlace(), 2);
        Typist.enter(s, "1/0");
        Check.due("a trouble keeps it", s.badPlace(), 2);
        Typist.type(s, ")))");
        Check.due("a line not entered keeps it", s.badPlace(), 2);
        s.enter();
        Check.due("the last one counts", s.badPlace(), 0);
        Typist.enter(s, "x+x+x+x+x+x+x+x+x+x+x+x+x+x+x+x+");
        Check.due("the greatest", s.badPlace(), 32);
        s.enter();
        Check.due("an empty line's", s.badPlace(), 0);
        promise(6, "-1 if no line was SYNTAX yet");
        RationalSession t = new RationalSession();
        Check.due("at first", t.badPlace(), -1);
        Typist.enter(t, "x");
        Check.due("after a good line", t.badPlace(), -1);
        Typist.enter(t, "1/0");
        Check.due("after a trouble", t.badPlace(), -1);
        RationalSession full = full();
        Typist.enter(full, "x+");
        Check.due("after FULL", full.badPlace(), -1);
    }

    private static void degrees() {
        promise(7, "The label's degree of N (denominator false) or D");
        RationalSession s = new RationalSession();
        Typist.enter(s, "(x^5+1)/(x^12+3)");
        Typist.enter(s, "x^12");
        Typist.enter(s, "7");
        Typist.enter(s, "0");
        int[] over = {5, 12, 0, -1};
        int[] under = {12, 0, 0, 0};
        for (int label = 1; label <= 4; label++) {
            Check.due("degree of N, label " + label, s.degree(label, false), over[label - 1]);
            Check.due("degree of D, label " + label, s.degree(label, true), under[label - 1]);
        }
        promise(7, "-1 for N = 0");
        Typist.enter(s, "1/x-1/x");
        Check.due("degree of N", s.degree(5, false), -1);
        Check.due("degree of D", s.degree(5, true), 0);
        promise(7, "No such label: REFUSED");
        for (int label : wrongLabels(5)) {
            Check.due("degree(" + label + ", false)", s.degree(label, false), REFUSED);
            Check.due("degree(" + label + ", true)", s.degree(label, true), REFUSED);
        }
        RationalSession full = full();
        Check.due("label 40", full.degree(40, false), 1);
        Check.due("label 41", full.degree(41, false), REFUSED);
    }

    private static void coefficients() {
        promise(8, "The label's coefficient of x^i (i 0 .. 12) in N or D");
        RationalSession s = new RationalSession();
        Typist.enter(s, "(4*x^12-6*x+2)/(2*x^3+8)");
        Typist.enter(s, "0");
        Typist.enter(s, "x^-12");
        int[] over = {1, 10004, 0, 0, 0, 0, 0, 0, 0, 0, 0, 0, 2};
        int[] under = {4, 0, 0, 1, 0, 0, 0, 0, 0, 0, 0, 0, 0};
        for (int i = 0; i <= 12; i++) {
            Check.due("N, " + i, s.coefficient(1, false, i), over[i]);
            Check.due("D, " + i, s.coefficient(1, true, i), under[i]);
            Check.due("0: N, " + i, s.coefficient(2, false, i), 0);
            Check.due("0: D, " + i, s.coefficient(2, true, i), i == 0 ? 1 : 0);
            Check.due("x^-12: N, " + i, s.coefficient(3, false, i), i == 0 ? 1 : 0);
            Check.due("x^-12: D, " + i, s.coefficient(3, true, i), i == 12 ? 1 : 0);
        }
        promise(8, "No such label, i out of range: REFUSED");
        for (int i : new int[] {-1, 13, 14, 25, 256, 65536, LEAST, MOST}) {
            for (int label = 1; label <= 3; label++) {
                Check.due("N, " + i, s.coefficient(label, false, i), REFUSED);
                Check.due("D, " + i, s.coefficient(label, true, i), REFUSED);
            }
        }
        for (int label : wrongLabels(3)) {
            for (int i : new int[] {-1, 0, 12, 13}) {
                Check.due("N of " + label + ", " + i, s.coefficient(label, false, i), REFUSED);
                Check.due("D of " + label + ", " + i, s.coefficient(label, true, i), REFUSED);
            }
        }
        RationalSession full = full();
        Check.due("label 40", full.coefficient(40, false, 1), 40);
        Check.due("label 41", full.coefficient(41, false, 1), REFUSED);
    }

    private static void shapes() {
        promise(9, "The label's SHAPE NUMBER");
        RationalSession s = used();
        Check.due("shape(1)", s.shape(1), 1);
        Check.due("shape(2)", s.shape(2), 2);
        Check.due("shape(3)", s.shape(3), 1);
        promise(9, "no such label: REFUSED");
        for (int label : wrongLabels(3)) {
            Check.due("shape(" + label + ")", s.shape(label), REFUSED);
        }
        RationalSession full = full();
        Check.due("label 40", full.shape(40), 40);
        Check.due("label 41", full.shape(41), REFUSED);
        promise(10, "How many different SHAPE NUMBERS are given");
        Check.due("of none", new RationalSession().shapes(), 0);
        Check.due("of two", s.shapes(), 2);
        Check.due("of 40", full.shapes(), 40);
        Typist.enter(full, "1234");
        Check.due("after FULL", full.shapes(), 40);
        RationalSession same = new RationalSession();
        for (int i = 1; i <= 40; i++) {
            Typist.enter(same, "x^" + i % 2 + "-x^" + i % 2);
            Check.due("40 times the same", same.shapes(), 1);
        }
        Typist.enter(s, "1/0");
        Check.due("after a trouble", s.shapes(), 2);
    }

    private static void labels() {
        promise(11, "How many labels are given");
        RationalSession s = new RationalSession();
        Check.due("of none", s.labels(), 0);
        for (int i = 1; i <= 40; i++) {
            Typist.enter(s, "x");
            Check.due("labels()", s.labels(), i);
            Typist.enter(s, "x+");
            Typist.enter(s, "a");
            Check.due("labels() after troubles", s.labels(), i);
        }
        Typist.enter(s, "x");
        Check.due("after FULL", s.labels(), 40);
    }

    private static void names() {
        promise(12, "The SHAPE NUMBER of what the name (0 a, 1 b, 2 c) is bound to");
        RationalSession s = new RationalSession();
        Typist.enter(s, "x");
        Typist.enter(s, "c:x+1");
        Typist.enter(s, "a:x^2/x");
        Check.due("a", s.bound(0), 1);
        Check.due("c", s.bound(2), 2);
        Typist.enter(s, "a:c+a");
        Check.due("a again", s.bound(0), 3);
        Check.due("c stays", s.bound(2), 2);
        Typist.enter(s, "b:a-c");
        Check.due("b", s.bound(1), 1);
        RationalSession full = full();
        Check.due("the greatest SHAPE NUMBER", full.bound(1), 40);
        promise(12, "0 if it's not bound");
        RationalSession t = new RationalSession();
        Typist.enter(t, "x");
        for (int name = 0; name < 3; name++) {
            Check.due("bound(" + name + ")", t.bound(name), 0);
        }
        Typist.enter(t, "b:0");
        Check.due("a", t.bound(0), 0);
        Check.due("bound to the zero function", t.bound(1), 2);
        Check.due("c", t.bound(2), 0);
        promise(12, "else REFUSED");
        for (int name : new int[] {-1, 3, 4, 'a', 'b', 256, 65536, LEAST, MOST}) {
            Check.due("bound(" + name + ")", t.bound(name), REFUSED);
            Check.due("bound(" + name + ") when new", new RationalSession().bound(name), REFUSED);
        }
    }

    private static void values() {
        promise(13, "The label's value where x is the number at modulo 10007 (0 .. 10006, for negative ones too)");
        RationalSession s = new RationalSession();
        Typist.enter(s, "(x^2+3)/(x-5)");
        Typist.enter(s, "x");
        Typist.enter(s, "(x^2-1)/(x-1)");
        Typist.enter(s, "0");
        Check.due("at 6", s.value(1, 6), 39);
        Check.due("at 7", s.value(1, 7), 26);
        Check.due("at 6 + 10007", s.value(1, 6 + 10007), 39);
        Check.due("at 6 - 10007", s.value(1, 6 - 10007), 39);
        Check.due("at 6 - 20014", s.value(1, 6 - 20014), 39);
        int[] points = {0, 1, 10006, 10007, 10008, 20013, 20014, -1, -10006, -10007, -10008, LEAST, MOST};
        int[] values = {0, 1, 10006, 0, 1, 10006, 0, 10006, 1, 0, 10006, 8545, 1461};
        for (int i = 0; i < points.length; i++) {
            Check.due("x at " + points[i], s.value(2, points[i]), values[i]);
            Check.due("0 at " + points[i], s.value(4, points[i]), 0);
        }
        Check.due("what a reduced FORM no longer has", s.value(3, 1), 2);
        promise(13, "No such label: REFUSED");
        for (int label : wrongLabels(4)) {
            Check.due("value(" + label + ", 5)", s.value(label, 5), REFUSED);
        }
        RationalSession full = full();
        Check.due("label 40", full.value(40, 2), 80);
        Check.due("label 41", full.value(41, 2), REFUSED);
        poles();
    }

    private static void poles() {
        promise(13, "D is zero there: POLE");
        RationalSession s = new RationalSession();
        Typist.enter(s, "(x^2+3)/(x-5)");
        Typist.enter(s, "x/(x^2-1)");
        Typist.enter(s, "1/x");
        Check.due("at 4", s.value(1, 4), 9988);
        Check.due("at 5", s.value(1, 5), POLE);
        Check.due("at 5 - 10007", s.value(1, 5 - 10007), POLE);
        Check.due("at 5 + 10007", s.value(1, 5 + 10007), POLE);
        Check.due("at 1", s.value(2, 1), POLE);
        Check.due("at -1", s.value(2, -1), POLE);
        Check.due("at 10006", s.value(2, 10006), POLE);
        Check.due("N is zero there", s.value(2, 0), 0);
        Check.due("1/x at 0", s.value(3, 0), POLE);
        Check.due("1/x at 10007", s.value(3, 10007), POLE);
        Check.due("1/x at -10007", s.value(3, -10007), POLE);
        Check.due("1/x at 10006", s.value(3, 10006), 10006);
    }

    private static void texts() {
        promise(14, "Character i (from 0) of the label's text, its code");
        RationalSession s = new RationalSession();
        Typist.enter(s, "12*x/(x+1)");
        String want = "(12*x)/(x+1)";
        for (int i = 0; i < want.length(); i++) {
            Check.due("text(1, " + i + ")", s.text(1, i), want.charAt(i));
        }
        promise(14, "0 right after the last character and behind");
        for (int i : new int[] {want.length(), want.length() + 1, 300, 1000, 65536, MOST}) {
            Check.due("text(1, " + i + ")", s.text(1, i), 0);
        }
        Typist.enter(s, "0");
        Check.due("text(2, 0)", s.text(2, 0), '0');
        Check.due("text(2, 1)", s.text(2, 1), 0);
        promise(14, "no such label or i below 0: REFUSED");
        for (int i : new int[] {-1, -2, LEAST}) {
            Check.due("text(1, " + i + ")", s.text(1, i), REFUSED);
        }
        for (int label : wrongLabels(2)) {
            for (int i : new int[] {-1, 0, 1, 99, MOST, LEAST}) {
                Check.due("text(" + label + ", " + i + ")", s.text(label, i), REFUSED);
            }
        }
        RationalSession full = full();
        Check.due("label 40", Typist.text(full, 40), "40*x");
        Check.due("label 41", full.text(41, 0), REFUSED);
        textsOfPolynomials();
        longestText();
    }

    private static void textsOfPolynomials() {
        promise(14, "its coefficients that aren't 0 from the highest power down, each as a part, joined by +");
        Fresh.text("1+x+x^2", "x^2+x+1");
        Fresh.text("1+x^12", "x^12+1");
        Fresh.text("x^11+x^3", "x^11+x^3");
        Fresh.text("x-1", "x+10006");
        promise(14, "the zero polynomial is 0");
        Fresh.text("0", "0");
        Fresh.text("x-x", "0");
        promise(14, "A part is the coefficient in decimal");
        for (String number : new String[] {"1", "9", "10", "99", "100", "101", "999", "1000", "1001", "9999", "10000", "10006"}) {
            Fresh.text(number, number);
            Fresh.text(number + "+x^2", "x^2+" + number);
        }
        promise(14, "for powers above 0, *x, then, for powers above 1, ^ and the power");
        Fresh.text("2*x^0", "2");
        Fresh.text("2*x", "2*x");
        for (int power = 2; power <= 12; power++) {
            Fresh.text("2*x^" + power, "2*x^" + power);
        }
        promise(14, "where the coefficient is 1 and the power above 0, 1* is left out");
        Fresh.text("1", "1");
        Fresh.text("1*x", "x");
        Fresh.text("1*x^12+1*x+1", "x^12+x+1");
        Fresh.text("11*x+1", "11*x+1");
        Fresh.text("10001*x^2", "10001*x^2");
        promise(14, "N's alone if D is 1; else ( N's ) / ( D's )");
        Fresh.text("x/1", "x");
        Fresh.text("x/2", "5004*x");
        Fresh.text("1/x", "(1)/(x)");
        Fresh.text("(x+1)/(x^2+10)", "(x+1)/(x^2+10)");
        Fresh.text("0/x", "0");
    }

    /** Both rows full of coefficients, as many characters as a text can have or nearly so. */
    private static void longestText() {
        promise(14, "The text is N's alone if D is 1");
        RationalSession s = new RationalSession();
        Typist.enter(s, "a:(x-2)^12*9999");
        Typist.enter(s, "b:(x-3)^12");
        Typist.enter(s, "a/b");
        StringBuilder want = new StringBuilder("(");
        for (int part = 0; part < 2; part++) {
            want.append(part == 0 ? "" : ")/(");
            for (int i = 12; i >= 0; i--) {
                int c = s.coefficient(3, part == 1, i);
                want.append(i == 12 ? "" : "+");
                want.append(c == 1 && i > 0 ? "" : c + (i > 0 ? "*" : ""));
                want.append(i == 0 ? "" : i == 1 ? "x" : "x^" + i);
            }
        }
        want.append(")");
        Check.due("the long text", Typist.text(s, 3), want.toString());
        Check.due("its last character", s.text(3, want.length() - 1), ')');
        Check.due("right after it", s.text(3, want.length()), 0);
    }

    private static void lines() {
        promise(15, "The length of the line, for i below 0");
        RationalSession s = new RationalSession();
        for (int length = 0; length <= 32; length++) {
            for (int i : new int[] {-1, -2, -32, -33, LEAST}) {
                Check.due("line(" + i + ")", s.line(i), length);
            }
            s.type('x');
        }
        s.reset();
        promise(15, "else the code of the line's character i, or REFUSED if it has no such");
        Check.due("line(0) of an empty line", s.line(0), REFUSED);
        Typist.type(s, FULL_LINE);
        for (int i = 0; i < 32; i++) {
            Check.due("line(" + i + ")", s.line(i), FULL_LINE.charAt(i));
        }
        for (int i : new int[] {32, 33, 256, 65536, MOST}) {
            Check.due("line(" + i + ")", s.line(i), REFUSED);
        }
        s.back();
        Check.due("line(30) after back()", s.line(30), 'x');
        Check.due("line(31) after back()", s.line(31), REFUSED);
        s.enter();
        Check.due("line(0) after enter()", s.line(0), REFUSED);
    }

    private static void resetting() {
        promise(16, "Forgets all labels, SHAPE NUMBERS, names, the line and the LAST BAD PLACE");
        RationalSession s = new RationalSession();
        Typist.enter(s, "a:x");
        Typist.enter(s, "b:x+1");
        Typist.enter(s, "c:x^2");
        Typist.enter(s, "x+");
        Typist.type(s, "x+1");
        s.reset();
        checkEmpty("after reset", s);
        s.reset();
        Check.due("as a new one", Snapshot.of(s), Snapshot.of(new RationalSession()));
        Check.due("labels start again", Typist.enter(s, "x^2"), 1);
        Check.due("shape numbers start again", s.shape(1), 1);
        Check.due("shapes()", s.shapes(), 1);
        for (int name = 0; name < 3; name++) {
            Check.due("names stay forgotten", s.bound(name), 0);
            Check.due("names stay forgotten", Typist.enter(s, "" + (char) ('a' + name)), UNBOUND);
        }
        Check.due("a label of before", Typist.enter(s, "%2"), UNBOUND);
        RationalSession full = full();
        Typist.type(full, FULL_LINE);
        full.reset();
        checkEmpty("after reset of a full one", full);
        for (int i = 1; i <= 40; i++) {
            Check.due("room after reset", Typist.enter(full, i + ""), i);
        }
        Check.due("full again", Typist.enter(full, "1"), FULL);
        RationalSession none = new RationalSession();
        none.reset();
        checkEmpty("after reset of a new one", none);
    }
}
