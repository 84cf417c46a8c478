/** Promises 7 to 14: what is asked of labels and names, sentence by sentence. */
public final class LabelsTest {
    private static final int REFUSED = RationalSession.REFUSED;
    private static final int POLE = RationalSession.POLE;
    private static final int LEAST = Sessions.LEAST;
    private static final int MOST = Sessions.MOST;

    public static void main(String[] args) {
        degrees();
        degreeOfZero();
        degreeOfNoLabel();
        coefficients();
        coefficientsOutOfRange();
        coefficientsOfNoLabel();
        shape();
        shapeOfNoLabel();
        shapes();
        labels();
        boundNames();
        namesNotBound();
        noNames();
        values();
        valueOfNoLabel();
        poles();
        textCharacters();
        behindTexts();
        noTexts();
        partsOfTexts();
        zeroText();
        coefficientsInTexts();
        powersInTexts();
        onesInTexts();
        textsOfTwo();
        longestText();
        askingChangesNothing();
        Check.end();
    }

    private static void sentence(int promise, String words) {
        Check.sentence("Promise " + promise, words);
    }

    private static RationalSession with(String... lines) {
        RationalSession s = new RationalSession();
        for (String line : lines) {
            Typist.enter(s, line);
        }
        return s;
    }

    private static void degrees() {
        sentence(7, "The label's degree of N (denominator false) or D");
        RationalSession s = with("(x^5+1)/(x^12+3)", "x^12", "7", "x^12/(x^11+1)");
        int[] over = {5, 12, 0, 12};
        int[] under = {12, 0, 0, 11};
        for (int label = 1; label <= 4; label++) {
            Check.due("degree of N, label " + label, s.degree(label, false), over[label - 1]);
            Check.due("degree of D, label " + label, s.degree(label, true), under[label - 1]);
        }
        Check.due("label 40", Sessions.full().degree(40, false), 1);
    }

    private static void degreeOfZero() {
        sentence(7, "-1 for N = 0");
        RationalSession s = with("0", "1/x-1/x", "10007*x^12");
        for (int label = 1; label <= 3; label++) {
            Check.due("degree of N", s.degree(label, false), -1);
            Check.due("degree of D", s.degree(label, true), 0);
        }
    }

    private static void degreeOfNoLabel() {
        sentence(7, "No such label: REFUSED");
        RationalSession s = with("x^2", "1/x");
        for (int label : Sessions.wrongLabels(2)) {
            Check.due("degree(" + label + ", false)", s.degree(label, false), REFUSED);
            Check.due("degree(" + label + ", true)", s.degree(label, true), REFUSED);
        }
        Check.due("label 41", Sessions.full().degree(41, false), REFUSED);
    }

    private static void coefficients() {
        sentence(8, "The label's coefficient of x^i (i 0 .. 12) in N or D");
        RationalSession s = with("(4*x^12-6*x+2)/(2*x^3+8)", "0", "x^-12");
        int[] over = {1, 10004, 0, 0, 0, 0, 0, 0, 0, 0, 0, 0, 2};
        int[] under = {4, 0, 0, 1, 0, 0, 0, 0, 0, 0, 0, 0, 0};
        for (int i = 0; i <= 12; i++) {
            Check.due("N, " + i, s.coefficient(1, false, i), over[i]);
            Check.due("D, " + i, s.coefficient(1, true, i), under[i]);
            Check.due("0: N, " + i, s.coefficient(2, false, i), 0);
            Check.due("0: D, " + i, s.coefficient(2, true, i), i == 0 ? 1 : 0);
            Check.due("x^-12: N, " + i, s.coefficient(3, false, i), i == 0 ? 1 : 0);
            Check.due("x^-12: D, " + i, s.coefficient(3, true, i), i == 12 ? 1 : 0);
        }
        Check.due("label 40", Sessions.full().coefficient(40, false, 1), 40);
    }

    private static void coefficientsOutOfRange() {
        sentence(8, "i out of range: REFUSED");
        RationalSession s = with("x^12/(x^12+1)", "0");
        for (int i : new int[] {-1, 13, 14, 25, 256, 65536, LEAST, MOST}) {
            for (int label = 1; label <= 2; label++) {
                Check.due("N, " + i, s.coefficient(label, false, i), REFUSED);
                Check.due("D, " + i, s.coefficient(label, true, i), REFUSED);
            }
        }
    }

    private static void coefficientsOfNoLabel() {
        sentence(8, "No such label: REFUSED");
        RationalSession s = with("x^12/(x^12+1)", "0");
        for (int label : Sessions.wrongLabels(2)) {
            for (int i : new int[] {-1, 0, 12, 13}) {
                Check.due("N of " + label + ", " + i, s.coefficient(label, false, i), REFUSED);
                Check.due("D of " + label + ", " + i, s.coefficient(label, true, i), REFUSED);
            }
        }
        Check.due("label 41", Sessions.full().coefficient(41, false, 1), REFUSED);
    }

    private static void shape() {
        sentence(9, "The label's SHAPE NUMBER");
        RationalSession s = with("x", "0", "x^2/x");
        Check.due("shape(1)", s.shape(1), 1);
        Check.due("shape(2)", s.shape(2), 2);
        Check.due("shape(3)", s.shape(3), 1);
        Check.due("label 40", Sessions.full().shape(40), 40);
    }

    private static void shapeOfNoLabel() {
        sentence(9, "no such label: REFUSED");
        RationalSession s = with("x", "0", "x^2/x");
        for (int label : Sessions.wrongLabels(3)) {
            Check.due("shape(" + label + ")", s.shape(label), REFUSED);
        }
        Check.due("label 41", Sessions.full().shape(41), REFUSED);
    }

    private static void shapes() {
        sentence(10, "How many different SHAPE NUMBERS are given");
        Check.due("of none", new RationalSession().shapes(), 0);
        Check.due("of two", with("x", "0", "x^2/x", "1/0", "x+").shapes(), 2);
        RationalSession full = Sessions.full();
        Check.due("of 40", full.shapes(), 40);
        Typist.enter(full, "1234");
        Check.due("after FULL", full.shapes(), 40);
        RationalSession same = new RationalSession();
        for (int i = 1; i <= 40; i++) {
            Typist.enter(same, "x^" + i % 13 + "-x^" + i % 13);
            Check.due("40 times the same", same.shapes(), 1);
        }
    }

    private static void labels() {
        sentence(11, "How many labels are given");
        RationalSession s = new RationalSession();
        Check.due("of none", s.labels(), 0);
        for (int i = 1; i <= 40; i++) {
            Typist.enter(s, "x");
            Check.due("labels()", s.labels(), i);
            Typist.enter(s, "x+");
            Typist.enter(s, "a");
            Check.due("labels() after troubles", s.labels(), i);
        }
        Typist.enter(s, "x");
        Check.due("after FULL", s.labels(), 40);
    }

    private static void boundNames() {
        sentence(12, "The SHAPE NUMBER of what the name (0 a, 1 b, 2 c) is bound to");
        RationalSession s = with("x", "c:x+1", "a:x^2/x");
        Check.due("a", s.bound(0), 1);
        Check.due("c", s.bound(2), 2);
        Typist.enter(s, "a:c+a");
        Check.due("a again", s.bound(0), 3);
        Check.due("c stays", s.bound(2), 2);
        Typist.enter(s, "b:a-c");
        Check.due("b", s.bound(1), 1);
        Check.due("the greatest SHAPE NUMBER", Sessions.full().bound(1), 40);
    }

    private static void namesNotBound() {
        sentence(12, "0 if it's not bound");
        RationalSession s = with("x");
        for (int name = 0; name < 3; name++) {
            Check.due("bound(" + name + ")", s.bound(name), 0);
        }
        Typist.enter(s, "b:0");
        Check.due("a", s.bound(0), 0);
        Check.due("bound to the zero function", s.bound(1), 2);
        Check.due("c", s.bound(2), 0);
    }

    private static void noNames() {
        sentence(12, "else REFUSED");
        RationalSession s = with("a:x", "b:x", "c:x");
        for (int name : new int[] {-1, 3, 4, 'a', 'b', 256, 65536, LEAST, MOST}) {
            Check.due("bound(" + name + ")", s.bound(name), REFUSED);
            Check.due("bound(" + name + ") when new", new RationalSession().bound(name), REFUSED);
        }
    }

    private static void values() {
        sentence(13, "The label's value where x is the number at modulo 10007 (0 .. 10006, for negative ones too)");
        RationalSession s = with("(x^2+3)/(x-5)", "x", "(x^2-1)/(x-1)", "0", "10006*x^12/(10006*x^12+5)");
        Check.due("at 6", s.value(1, 6), 39);
        Check.due("at 7", s.value(1, 7), 26);
        Check.due("at 6 + 10007", s.value(1, 6 + 10007), 39);
        Check.due("at 6 - 10007", s.value(1, 6 - 10007), 39);
        Check.due("at 6 - 20014", s.value(1, 6 - 20014), 39);
        int[] points = {0, 1, 10006, 10007, 10008, 20013, 20014, -1, -10006, -10007, -10008, LEAST, MOST};
        int[] values = {0, 1, 10006, 0, 1, 10006, 0, 10006, 1, 0, 10006, 8545, 1461};
        for (int i = 0; i < points.length; i++) {
            Check.due("x at " + points[i], s.value(2, points[i]), values[i]);
            Check.due("0 at " + points[i], s.value(4, points[i]), 0);
        }
        Check.due("what a reduced FORM no longer has", s.value(3, 1), 2);
        Check.due("high powers at 10006", s.value(5, 10006), 7505);
        Check.due("label 40", Sessions.full().value(40, 2), 80);
    }

    private static void valueOfNoLabel() {
        sentence(13, "No such label: REFUSED");
        RationalSession s = with("x", "1/x");
        for (int label : Sessions.wrongLabels(2)) {
            for (int at : new int[] {0, 5, -5, LEAST, MOST}) {
                Check.due("value(" + label + ", " + at + ")", s.value(label, at), REFUSED);
            }
        }
        Check.due("label 41", Sessions.full().value(41, 2), REFUSED);
    }

    private static void poles() {
        sentence(13, "D is zero there: POLE");
        RationalSession s = with("(x^2+3)/(x-5)", "x/(x^2-1)", "1/x");
        Check.due("at 4", s.value(1, 4), 9988);
        Check.due("at 5", s.value(1, 5), POLE);
        Check.due("at 5 - 10007", s.value(1, 5 - 10007), POLE);
        Check.due("at 5 + 10007", s.value(1, 5 + 10007), POLE);
        Check.due("at 1", s.value(2, 1), POLE);
        Check.due("at -1", s.value(2, -1), POLE);
        Check.due("at 10006", s.value(2, 10006), POLE);
        Check.due("N is zero there", s.value(2, 0), 0);
        Check.due("1/x at 0", s.value(3, 0), POLE);
        Check.due("1/x at 10007", s.value(3, 10007), POLE);
        Check.due("1/x at -10007", s.value(3, -10007), POLE);
        Check.due("1/x at 10006", s.value(3, 10006), 10006);
    }

    private static void textCharacters() {
        sentence(14, "Character i (from 0) of the label's text, its code");
        RationalSession s = with("12*x/(x+1)");
        String want = "(12*x)/(x+1)";
        for (int i = 0; i < want.length(); i++) {
            Check.due("text(1, " + i + ")", s.text(1, i), want.charAt(i));
        }
        Check.due("label 40", Typist.text(Sessions.full(), 40), "40*x");
    }

    private static void behindTexts() {
        sentence(14, "0 right after the last character and behind");
        RationalSession s = with("12*x/(x+1)", "0");
        Check.due("text(1, 11)", s.text(1, 11), ')');
        Check.due("text(2, 0)", s.text(2, 0), '0');
        for (int i : new int[] {12, 13, 255, 256, 1000, 65536, MOST}) {
            Check.due("text(1, " + i + ")", s.text(1, i), 0);
            Check.due("text(2, " + i + ")", s.text(2, i), 0);
        }
        Check.due("text(2, 1)", s.text(2, 1), 0);
    }

    private static void noTexts() {
        sentence(14, "no such label or i below 0: REFUSED");
        RationalSession s = with("12*x/(x+1)", "0");
        for (int i : new int[] {-1, -2, -12, LEAST}) {
            Check.due("text(1, " + i + ")", s.text(1, i), REFUSED);
        }
        for (int label : Sessions.wrongLabels(2)) {
            for (int i : new int[] {-1, 0, 1, 99, MOST, LEAST}) {
                Check.due("text(" + label + ", " + i + ")", s.text(label, i), REFUSED);
            }
        }
        Check.due("label 41", Sessions.full().text(41, 0), REFUSED);
    }

    private static void partsOfTexts() {
        sentence(14, "its coefficients that aren't 0 from the highest power down, each as a part, joined by +");
        Fresh.text("1+x+x^2", "x^2+x+1");
        Fresh.text("1+x^12", "x^12+1");
        Fresh.text("x^11+x^3", "x^11+x^3");
        Fresh.text("x-1", "x+10006");
    }

    private static void zeroText() {
        sentence(14, "the zero polynomial is 0");
        Fresh.text("0", "0");
        Fresh.text("x-x", "0");
        Fresh.text("0/x", "0");
    }

    private static void coefficientsInTexts() {
        sentence(14, "A part is the coefficient in decimal");
        for (String number : new String[] {"1", "9", "10", "99", "100", "101", "999", "1000", "1001", "9999", "10000", "10006"}) {
            Fresh.text(number, number);
            Fresh.text(number + "+x^2", "x^2+" + number);
        }
    }

    private static void powersInTexts() {
        sentence(14, "then, for powers above 0, *x, then, for powers above 1, ^ and the power");
        Fresh.text("2*x^0", "2");
        Fresh.text("2*x", "2*x");
        for (int power = 2; power <= 12; power++) {
            Fresh.text("2*x^" + power, "2*x^" + power);
        }
    }

    private static void onesInTexts() {
        sentence(14, "where the coefficient is 1 and the power above 0, 1* is left out");
        Fresh.text("1", "1");
        Fresh.text("1*x", "x");
        Fresh.text("1*x^12+1*x+1", "x^12+x+1");
        Fresh.text("11*x+1", "11*x+1");
        Fresh.text("10001*x^2", "10001*x^2");
    }

    private static void textsOfTwo() {
        sentence(14, "The text is N's alone if D is 1; else ( N's ) / ( D's )");
        Fresh.text("x/1", "x");
        Fresh.text("x/2", "5004*x");
        Fresh.text("1/x", "(1)/(x)");
        Fresh.text("x/(x+1)", "(x)/(x+1)");
        Fresh.text("(x+1)/(x^2+10)", "(x+1)/(x^2+10)");
    }

    /** All 13 coefficients of N and D have five digits, but for D's highest, which is 1. */
    private static void longestText() {
        sentence(14, "else ( N's ) / ( D's ) (the longest)");
        RationalSession s = with("a:-1", "b:1");
        StringBuilder parts = new StringBuilder();
        for (int power = 12; power >= 1; power--) {
            Typist.enter(s, "a:a*x-1");
            Typist.enter(s, "b:b*x-1");
            if (power < 12) {
                parts.append("+10006*x").append(power == 1 ? "" : "^" + power);
            }
        }
        parts.append("+10006");
        String want = "(10006*x^12" + parts + ")/(x^12" + parts + ")";
        int label = Typist.enter(s, "a/b");
        Check.due("the longest text", Typist.text(s, label), want);
        Check.due("its length", want.length(), 251);
        Check.due("its last character", s.text(label, 250), ')');
        Check.due("right after it", s.text(label, 251), 0);
    }

    private static void askingChangesNothing() {
        Check.sentence("Not promised", "Nothing is promised beyond the answers and state changes described above");
        RationalSession s = Sessions.used();
        String before = Snapshot.of(s);
        for (int number : new int[] {LEAST, -1, 0, 1, 3, 4, 41, MOST}) {
            s.degree(number, true);
            s.coefficient(number, false, number);
            s.shape(number);
            s.bound(number);
            s.value(number, number);
            s.text(number, number);
            s.line(number);
        }
        s.badPlace();
        s.shapes();
        s.labels();
        Check.due("after asking", Snapshot.of(s), before);
    }
}
