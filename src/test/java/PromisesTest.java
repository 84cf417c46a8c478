/** Each promise of the document: ordinary inputs, the edges that it names, and wrong inputs. */
public final class PromisesTest {
    private static final int REFUSED = RationalSession.REFUSED;
    private static final int FULL = RationalSession.FULL;
    private static final int SYNTAX = RationalSession.SYNTAX;
    private static final int UNBOUND = RationalSession.UNBOUND;
    private static final int DIVIDE = RationalSession.DIVIDE;
    private static final int TOO_BIG = RationalSession.TOO_BIG;
    private static final int POLE = RationalSession.POLE;

    private static final String ALLOWED = "0123456789xabcds%+-*/^(),:";
    private static final String FULL_LINE = "x+x+x+x+x+x+x+x+x+x+x+x+x+x+x+xx";

    public static void main(String[] args) {
        newObject();
        typing();
        typingEight();
        takingBack();
        entering();
        enteringOrder();
        troubles();
        firstTrouble();
        bigResults();
        meanings();
        badPlaces();
        degrees();
        coefficients();
        shapesAndLabels();
        names();
        values();
        texts();
        lines();
        resetting();
        Check.end();
    }

    private static void newObject() {
        checkEmpty("new", new RationalSession());
    }

    private static void checkEmpty(String when, RationalSession s) {
        Check.due(when + ": line(-1)", s.line(-1), 0);
        Check.due(when + ": line(0)", s.line(0), REFUSED);
        Check.due(when + ": labels()", s.labels(), 0);
        Check.due(when + ": shapes()", s.shapes(), 0);
        Check.due(when + ": badPlace()", s.badPlace(), -1);
        for (int name = 0; name < 3; name++) {
            Check.due(when + ": bound(" + name + ")", s.bound(name), 0);
        }
        Check.due(when + ": shape(1)", s.shape(1), REFUSED);
        Check.due(when + ": degree(1)", s.degree(1, true), REFUSED);
        Check.due(when + ": coefficient(1)", s.coefficient(1, true, 0), REFUSED);
        Check.due(when + ": value(1, 0)", s.value(1, 0), REFUSED);
        Check.due(when + ": text(1, 0)", s.text(1, 0), REFUSED);
        Check.due(when + ": back()", s.back(), REFUSED);
        Check.due(when + ": x + b", Typist.enter(s, "x+b"), UNBOUND);
        Check.due(when + ": %1", Typist.enter(s, "%1"), UNBOUND);
    }

    private static void typing() {
        RationalSession s = new RationalSession();
        for (int c = -300; c < 700; c++) {
            boolean allowed = c > 0 && c < 128 && ALLOWED.indexOf(c) >= 0;
            Check.due("type(" + c + ")", s.type(c), allowed ? 1 : REFUSED);
            Check.due("back() after type(" + c + ")", s.back(), allowed ? 0 : REFUSED);
        }
        Check.due("type(65536 + x)", s.type(65536 + 'x'), REFUSED);
        Check.due("type(least)", s.type(Integer.MIN_VALUE), REFUSED);
        Check.due("type(most)", s.type(Integer.MAX_VALUE), REFUSED);
        Check.due("32 characters", Typist.type(s, FULL_LINE), 32);
        Check.due("a 33rd", s.type('x'), FULL);
        Check.due("a wrong 33rd", s.type('y'), REFUSED);
        Check.due("the line stays", Typist.line(s), FULL_LINE);
        Check.due("room again", s.back(), 31);
        Check.due("a 32nd", s.type('1'), 32);
    }

    private static void typingEight() {
        RationalSession s = new RationalSession();
        Check.due("types(0)", s.types(0), 0);
        Check.due("eight", s.types(Typist.pack("s(x,1/x)")), 8);
        Check.due("eight stand", Typist.line(s), "s(x,1/x)");
        Check.due("zeros are left out", s.types((long) '+' << 56 | (long) '7' << 24 | 'x'), 11);
        Check.due("zeros are left out", Typist.line(s), "s(x,1/x)+7x");
        Check.due("types(0) later", s.types(0), 11);
        Check.due("a wrong one", s.types(Typist.pack("1+y+2")), REFUSED);
        Check.due("those before it stay", Typist.line(s), "s(x,1/x)+7x1+");
        Check.due("a high byte", s.types(-1L), REFUSED);
        Check.due("a high byte behind", s.types((long) 'a' << 56 | 0xF8L << 48 | 'b'), REFUSED);
        Check.due("it stopped", Typist.line(s), "s(x,1/x)+7x1+a");
        s.reset();
        Typist.type(s, FULL_LINE.substring(0, 29));
        Check.due("over the end", s.types(Typist.pack("12345")), FULL);
        Check.due("the first three stay", Typist.line(s), FULL_LINE.substring(0, 29) + "123");
        Check.due("zeros on a full line", s.types(0), 32);
        Check.due("full", s.types(Typist.pack("x")), FULL);
        Check.due("wrong on a full line", s.types(Typist.pack("yx")), REFUSED);
        Check.due("full before a wrong one", s.types(Typist.pack("xy")), FULL);
    }

    private static void takingBack() {
        RationalSession s = new RationalSession();
        Check.due("back() on nothing", s.back(), REFUSED);
        Typist.type(s, "x+1");
        Check.due("back()", s.back(), 2);
        Check.due("the last went", Typist.line(s), "x+");
        Check.due("back()", s.back(), 1);
        Check.due("back()", s.back(), 0);
        Check.due("back() on nothing", s.back(), REFUSED);
        Check.due("a line after it", Typist.enter(s, "7"), 1);
        Check.due("back() after enter", s.back(), REFUSED);
    }

    private static void entering() {
        RationalSession s = new RationalSession();
        Check.due("first", Typist.enter(s, "a:x+1"), 1);
        Check.due("empty afterwards", s.line(-1), 0);
        Check.due("second", Typist.enter(s, "a*a"), 2);
        Check.due("a*a", Typist.text(s, 2), "x^2+2*x+1");
        Check.due("rebinding from itself", Typist.enter(s, "a:a^2"), 3);
        Check.due("a is the square", Typist.enter(s, "a"), 4);
        Check.due("a", Typist.text(s, 4), "x^2+2*x+1");
        Check.due("label 1 stays", Typist.text(s, 1), "x+1");
        Check.due("labels, some with a 0", Typist.enter(s, "%1+%03-%01"), 5);
        Check.due("%1+%03-%01", Typist.text(s, 5), "x^2+2*x+1");
    }

    private static void enteringOrder() {
        RationalSession s = new RationalSession();
        for (int i = 1; i <= 40; i++) {
            Check.due("label " + i, Typist.enter(s, "b:" + i + "*x"), i);
        }
        int before = s.bound(1);
        Check.due("40 labels", Typist.enter(s, "b:x"), FULL);
        Check.due("nothing is bound", s.bound(1), before);
        Check.due("empty after FULL", s.line(-1), 0);
        Check.due("FULL before SYNTAX", Typist.enter(s, "x+"), FULL);
        Check.due("no BAD PLACE", s.badPlace(), -1);
        Check.due("FULL before a trouble", Typist.enter(s, "1/0"), FULL);
        Check.due("an empty line", s.enter(), FULL);
        Check.due("40", s.labels(), 40);
        Check.due("the 40th", Typist.text(s, 40), "40*x");
        s.reset();
        Check.due("SYNTAX before UNBOUND", Typist.enter(s, "a+"), SYNTAX);
        Check.due("empty after SYNTAX", s.line(-1), 0);
        Check.due("SYNTAX before DIVIDE", Typist.enter(s, "1/0)"), SYNTAX);
        Check.due("its place", s.badPlace(), 3);
        Check.due("UNBOUND", Typist.enter(s, "c:x+a"), UNBOUND);
        Check.due("empty after UNBOUND", s.line(-1), 0);
        Check.due("c isn't bound", s.bound(2), 0);
        Check.due("DIVIDE", Typist.enter(s, "c:x/0"), DIVIDE);
        Check.due("empty after DIVIDE", s.line(-1), 0);
        Check.due("TOO_BIG", Typist.enter(s, "c:x^7*x^6"), TOO_BIG);
        Check.due("empty after TOO_BIG", s.line(-1), 0);
        Check.due("c isn't bound", s.bound(2), 0);
        Check.due("no label", s.labels(), 0);
        Check.due("no shape", s.shapes(), 0);
        Check.due("the BAD PLACE stays", s.badPlace(), 3);
        Check.due("label 1 after troubles", Typist.enter(s, "c:3"), 1);
        Check.due("an old binding", Typist.enter(s, "c:1/0"), DIVIDE);
        Check.due("stays", s.bound(2), 1);
    }

    private static void trouble(String line, int want) {
        RationalSession s = new RationalSession();
        Check.due(line, Typist.enter(s, line), want);
        Check.due(line + ": labels()", s.labels(), want > 0 ? 1 : 0);
    }

    private static void troubles() {
        trouble("a", UNBOUND);
        trouble("b:b", UNBOUND);
        trouble("%0", UNBOUND);
        trouble("%00", UNBOUND);
        trouble("%1", UNBOUND);
        trouble("%99", UNBOUND);
        trouble("0*c", UNBOUND);
        trouble("a^0", UNBOUND);
        trouble("1/0", DIVIDE);
        trouble("0/0", DIVIDE);
        trouble("1/10007", DIVIDE);
        trouble("x/(x-x)", DIVIDE);
        trouble("1/d(5)", DIVIDE);
        trouble("0^-1", DIVIDE);
        trouble("0^-12", DIVIDE);
        trouble("(x-x)^-3", DIVIDE);
        trouble("0^-0", 1);
        trouble("0^0", 1);
        trouble("0^12", 1);
        trouble("s(1/x,0)", DIVIDE);
        trouble("s(x/(x^2-4),2)", DIVIDE);
        trouble("s(x/(x^2-4),x-x-2)", DIVIDE);
        trouble("s((x^2-4)/(x-2),2)", 1);
        trouble("s(1/x,1/x)", 1);
        trouble("s(1/x,x-x)", DIVIDE);
    }

    private static void firstTrouble() {
        trouble("a+1/0", UNBOUND);
        trouble("1/0+a", DIVIDE);
        trouble("x/0*a", DIVIDE);
        trouble("x*a/0", UNBOUND);
        trouble("1/(0*a)", UNBOUND);
        trouble("x^12*x+a", TOO_BIG);
        trouble("a+x^12*x", UNBOUND);
        trouble("1+x*x^12/0", TOO_BIG);
        trouble("1/0-x^12*x", DIVIDE);
        trouble("s(1/0,a)", DIVIDE);
        trouble("s(a,1/0)", UNBOUND);
        trouble("s(x^12*x,a)", TOO_BIG);
        trouble("s(1/x,0)+a", DIVIDE);
        trouble("d(1/x^7)*a", UNBOUND);
        trouble("d(1/x^12)*a", TOO_BIG);
        trouble("-x^12*x+a", TOO_BIG);
        trouble("(x^7)^2+1/0", TOO_BIG);
        trouble("x+x^12/a+1/0", UNBOUND);
    }

    private static void bigResults() {
        trouble("x^12", 1);
        trouble("x^-12", 1);
        trouble("x^12*x", TOO_BIG);
        trouble("x^12*x/x", TOO_BIG);
        trouble("x^12/x*x", 1);
        trouble("1/x^12/x", TOO_BIG);
        trouble("(x^4)^3", 1);
        trouble("(x^7)^2", TOO_BIG);
        trouble("(1/x^7)^2", TOO_BIG);
        trouble("(x^7)^-2", TOO_BIG);
        trouble("(x^12)^0", 1);
        trouble("(x^12)^-1", 1);
        trouble("d(x^12)", 1);
        trouble("d(x^-11)", 1);
        trouble("d(x^-12)", TOO_BIG);
        trouble("1/(x^6+1)+1/(x^6+2)", 1);
        trouble("1/(x^6+1)+1/(x^7+2)", TOO_BIG);
        trouble("1/(x^7+1)+1/(x^7+1)", 1);
        trouble("1/(x^7+1)-1/(x^7+2)", TOO_BIG);
        trouble("s(x^3,x^4)", 1);
        trouble("s(x^4,x^4)", TOO_BIG);
        trouble("s(x^3,x^-4)", 1);
        trouble("s(x^-7,x^-2)", TOO_BIG);
        trouble("s(x^12,7)", 1);
        trouble("s(7,x^12)", 1);
        trouble("s(x^6/(x^6+1),x^2+1)", 1);
        trouble("s(x^6/(x^6+1),x^3)", TOO_BIG);
        trouble("(x+1)^12/(x+1)^12", 1);
        trouble("(x^6+1)/(x^6-1)*(x^7-x)", 1);
    }

    private static void meaning(String line, String want) {
        RationalSession s = new RationalSession();
        Check.due(line, Typist.enter(s, line), 1);
        Check.due(line, Typist.text(s, 1), want);
    }

    private static void meanings() {
        meaning("99999", "9936");
        meaning("00012", "12");
        meaning("10007", "0");
        meaning("10008", "1");
        meaning("-1", "10006");
        meaning("+x", "x");
        meaning("-x+3", "10006*x+3");
        meaning("-x^2*2+x", "10005*x^2+x");
        meaning("-0", "0");
        meaning("(-x)^2", "x^2");
        meaning("8-3-2", "3");
        meaning("8/4/2", "1");
        meaning("8/4*2", "4");
        meaning("2+3*4", "14");
        meaning("(2+3)*4", "20");
        meaning("2*3^2", "18");
        meaning("2-3*4-5", "9992");
        meaning("1/2", "5004");
        meaning("x^0", "1");
        meaning("x^00", "1");
        meaning("x^01", "x");
        meaning("x^-0", "1");
        meaning("2^-1", "5004");
        meaning("(2*x)^-2", "(2502)/(x^2)");
        meaning("d(x^3)", "3*x^2");
        meaning("d(7)", "0");
        meaning("d(1/x)", "(10006)/(x^2)");
        meaning("d(d(x^3+x))", "6*x");
        meaning("d(x)^2", "1");
        meaning("s(x^2+1,x+1)", "x^2+2*x+2");
        meaning("s(x,s(x^2,x+1))", "x^2+2*x+1");
        meaning("s(1/x,1/x)", "x");
        meaning("s(x^2+x,1/x)", "(x+1)/(x^2)");
        meaning("s(1/(x^2+x),1/x)", "(x^2)/(x+1)");
        meaning("s(x-x,1/x)", "0");
        meaning("s(-x,-x)", "x");
        meaning("(x^2-1)/(x-1)", "x+1");
        meaning("(x-1)/(x^2-1)", "(1)/(x+1)");
        meaning("(x+1)/(2*x+2)", "5004");
        meaning("x/(2*x+4)", "(5004*x)/(x+2)");
        meaning("1/x-1/x", "0");
        meaning("1/x+1/(x+1)", "(2*x+1)/(x^2+x)");
        // As many sides waiting at once as a line can have, and as many operands.
        meaning("1+2*s(x,1+2*s(x,1+2*s(x,1+2*x)))", "16*x+15");
        meaning("1+2-3*4+5*6-7/7+8-9*1*2*3+4+5-6", "9984");
        meaning("(x^2-1)/(x^2+2*x+1)", "(x+10006)/(x+1)");
    }

    private static void place(String line, int want) {
        RationalSession s = new RationalSession();
        Check.due(line, Typist.enter(s, line), SYNTAX);
        Check.due(line + ": badPlace()", s.badPlace(), want);
    }

    private static void badPlaces() {
        place("", 0);
        place("+", 1);
        place("--x", 1);
        place("x*-x", 2);
        place("x+-x", 2);
        place("x*", 2);
        place("xx", 1);
        place("2x", 1);
        place("x2", 1);
        place("ab", 1);
        place(":x", 0);
        place("a:", 2);
        place("x:1", 1);
        place("d:1", 1);
        place("+a:x", 2);
        place("(a:x)", 2);
        place("a:b:x", 3);
        place("a::x", 2);
        place("^2", 0);
        place("x^", 2);
        place("x^-", 3);
        place("x^+1", 2);
        place("x^--1", 3);
        place("x^x", 2);
        place("x^(2)", 2);
        place("x^2^2", 3);
        place("x^13", 3);
        place("x^-13", 4);
        place("x^20", 3);
        place("x^012", 4);
        place("x^123", 4);
        place("%", 1);
        place("%x", 1);
        place("%-1", 1);
        place("%123", 3);
        place("%1%2", 2);
        place("123456", 5);
        place("000000", 5);
        place("()", 1);
        place(")", 0);
        place("x)", 1);
        place("(x", 2);
        place("(x))", 3);
        place("(x,x)", 2);
        place("x,x", 1);
        place("d", 1);
        place("dx", 1);
        place("d(", 2);
        place("d(x,x)", 3);
        place("s", 1);
        place("s(x)", 3);
        place("s(x,", 4);
        place("s(x,)", 4);
        place("s(,x)", 2);
        place("s(x,x,x)", 5);
        place("s((x,x))", 4);
        place("s(x,x", 5);
        place("(x)2", 3);
        place("(x)(x)", 3);
        place("x(x)", 1);
        place("((((((((d(x", 8);
        place("((((((((s", 8);
        place("((((((((x+(", 10);
        place("d(d(d(d(d(d(d(d(d", 16);
        place("(((((((d", 8);
        place("x+x+x+x+x+x+x+x+x+x+x+x+x+x+x+x+", 32);
        place("(x+x+x+x+x+x+x+x+x+x+x+x+x+x+x+x", 32);
        trouble("(((((((d(x))))))))", 1);
        trouble("((((((((x))))))))+(x)", 1);
        trouble("s(s(x,x),(x))+d(x)", 1);
        trouble("x^12+x^00+x^1+x^09", 1);

        RationalSession s = new RationalSession();
        Check.due("no place yet", s.badPlace(), -1);
        Typist.enter(s, "x+");
        Check.due("its place", s.badPlace(), 2);
        Typist.enter(s, "x");
        Check.due("a good line keeps it", s.badPlace(), 2);
        Typist.enter(s, "1/0");
        Check.due("a trouble keeps it", s.badPlace(), 2);
        s.enter();
        Check.due("the last one counts", s.badPlace(), 0);
    }

    private static void degrees() {
        RationalSession s = new RationalSession();
        Typist.enter(s, "(x^5+1)/(x^12+3)");
        Typist.enter(s, "7");
        Typist.enter(s, "0");
        Check.due("degree N", s.degree(1, false), 5);
        Check.due("degree D", s.degree(1, true), 12);
        Check.due("degree of a number", s.degree(2, false), 0);
        Check.due("degree under a number", s.degree(2, true), 0);
        Check.due("degree of 0", s.degree(3, false), -1);
        Check.due("degree under 0", s.degree(3, true), 0);
        for (int label : new int[] {0, -1, 4, 40, 41, Integer.MIN_VALUE, Integer.MAX_VALUE}) {
            Check.due("degree(" + label + ")", s.degree(label, true), REFUSED);
            Check.due("degree(" + label + ")", s.degree(label, false), REFUSED);
        }
    }

    private static void coefficients() {
        RationalSession s = new RationalSession();
        Typist.enter(s, "(4*x^12-6*x+2)/(2*x^3+8)");
        int[] over = {1, 10004, 0, 0, 0, 0, 0, 0, 0, 0, 0, 0, 2};
        int[] under = {4, 0, 0, 1, 0, 0, 0, 0, 0, 0, 0, 0, 0};
        for (int i = 0; i <= 12; i++) {
            Check.due("coefficient N " + i, s.coefficient(1, false, i), over[i]);
            Check.due("coefficient D " + i, s.coefficient(1, true, i), under[i]);
        }
        for (int i : new int[] {-1, 13, 14, 25, Integer.MIN_VALUE, Integer.MAX_VALUE}) {
            Check.due("coefficient N " + i, s.coefficient(1, false, i), REFUSED);
            Check.due("coefficient D " + i, s.coefficient(1, true, i), REFUSED);
        }
        for (int label : new int[] {0, -1, 2, 41, Integer.MIN_VALUE, Integer.MAX_VALUE}) {
            Check.due("coefficient of " + label, s.coefficient(label, true, 0), REFUSED);
        }
        Typist.enter(s, "0");
        for (int i = 0; i <= 12; i++) {
            Check.due("of 0, N " + i, s.coefficient(2, false, i), 0);
            Check.due("of 0, D " + i, s.coefficient(2, true, i), i == 0 ? 1 : 0);
        }
    }

    private static void shapesAndLabels() {
        RationalSession s = new RationalSession();
        String[] lines = {"x", "x+1", "1/x", "(x^2+x)/(x+1)", "x^-1", "-x", "10006*x", "x^0", "1", "(x^2-1)/(x-1)"};
        int[] numbers = {1, 2, 3, 1, 3, 4, 4, 5, 5, 2};
        int most = 0;
        for (int i = 0; i < lines.length; i++) {
            Check.due("labels() before " + lines[i], s.labels(), i);
            Check.due(lines[i], Typist.enter(s, lines[i]), i + 1);
            most = Math.max(most, numbers[i]);
            Check.due("shape of " + lines[i], s.shape(i + 1), numbers[i]);
            Check.due("shapes() after " + lines[i], s.shapes(), most);
            Check.due("labels() after " + lines[i], s.labels(), i + 1);
        }
        for (int label : new int[] {0, -1, 11, 41, Integer.MIN_VALUE, Integer.MAX_VALUE}) {
            Check.due("shape(" + label + ")", s.shape(label), REFUSED);
        }
    }

    private static void names() {
        RationalSession s = new RationalSession();
        Typist.enter(s, "x");
        Check.due("a bare line binds nothing", s.bound(0), 0);
        Typist.enter(s, "c:x+1");
        Typist.enter(s, "a:x^2/x");
        Check.due("a", s.bound(0), 1);
        Check.due("b", s.bound(1), 0);
        Check.due("c", s.bound(2), 2);
        Typist.enter(s, "a:c+a");
        Check.due("a again", s.bound(0), 3);
        Check.due("c stays", s.bound(2), 2);
        Typist.enter(s, "b:a-c");
        Check.due("b", s.bound(1), 1);
        for (int name : new int[] {-1, 3, 'a', Integer.MIN_VALUE, Integer.MAX_VALUE}) {
            Check.due("bound(" + name + ")", s.bound(name), REFUSED);
        }
    }

    private static void values() {
        RationalSession s = new RationalSession();
        Typist.enter(s, "(x^2+3)/(x-5)");
        Check.due("value at 6", s.value(1, 6), 39);
        Check.due("value at 7", s.value(1, 7), 26);
        Check.due("value at 6 + 10007", s.value(1, 6 + 10007), 39);
        Check.due("value at 6 - 10007", s.value(1, 6 - 10007), 39);
        Check.due("value at 6 - 20014", s.value(1, 6 - 20014), 39);
        Check.due("value at 5", s.value(1, 5), POLE);
        Check.due("value at 5 - 10007", s.value(1, 5 - 10007), POLE);
        Check.due("value at 5 + 10007", s.value(1, 5 + 10007), POLE);
        Typist.enter(s, "x");
        Check.due("x at -1", s.value(2, -1), 10006);
        Check.due("x at 10006", s.value(2, 10006), 10006);
        Check.due("x at 10007", s.value(2, 10007), 0);
        Check.due("x at least", s.value(2, Integer.MIN_VALUE), Math.floorMod(Integer.MIN_VALUE, 10007));
        Check.due("x at most", s.value(2, Integer.MAX_VALUE), Integer.MAX_VALUE % 10007);
        Typist.enter(s, "(x^2-1)/(x-1)");
        Check.due("a pole that is cancelled", s.value(3, 1), 2);
        Typist.enter(s, "0");
        Check.due("0", s.value(4, 77), 0);
        for (int label : new int[] {0, -1, 5, 41, Integer.MIN_VALUE, Integer.MAX_VALUE}) {
            Check.due("value(" + label + ")", s.value(label, 5), REFUSED);
        }
    }

    private static void texts() {
        meaning("0", "0");
        meaning("1", "1");
        meaning("x", "x");
        meaning("10006*x^12+10000*x^11+x^10+x+1", "10006*x^12+10000*x^11+x^10+x+1");
        meaning("2*x^2+100*x+1000", "2*x^2+100*x+1000");
        meaning("1/x", "(1)/(x)");
        meaning("(x+1)/(x^2+10)", "(x+1)/(x^2+10)");
        meaning("x^2/7/(x+9)", "(7148*x^2)/(x+9)");
        RationalSession s = new RationalSession();
        Typist.enter(s, "12*x/(x+1)");
        String want = "(12*x)/(x+1)";
        for (int i = 0; i < want.length(); i++) {
            Check.due("text(1, " + i + ")", s.text(1, i), want.charAt(i));
        }
        for (int i : new int[] {want.length(), want.length() + 1, 300, 1000, Integer.MAX_VALUE}) {
            Check.due("text(1, " + i + ")", s.text(1, i), 0);
        }
        Check.due("text(1, -1)", s.text(1, -1), REFUSED);
        Check.due("text(1, least)", s.text(1, Integer.MIN_VALUE), REFUSED);
        for (int label : new int[] {0, -1, 2, 41, Integer.MIN_VALUE, Integer.MAX_VALUE}) {
            Check.due("text(" + label + ", 0)", s.text(label, 0), REFUSED);
            Check.due("text(" + label + ", 99)", s.text(label, 99), REFUSED);
        }
        longestText();
    }

    /** Both rows full of five-digit coefficients, as many characters as a text can have. */
    private static void longestText() {
        RationalSession s = new RationalSession();
        Typist.enter(s, "a:(x-2)^12*9999");
        Typist.enter(s, "b:(x-3)^12");
        Typist.enter(s, "a/b");
        StringBuilder want = new StringBuilder("(");
        for (int part = 0; part < 2; part++) {
            want.append(part == 0 ? "" : ")/(");
            for (int i = 12; i >= 0; i--) {
                int c = s.coefficient(3, part == 1, i);
                want.append(i == 12 ? "" : "+");
                want.append(c == 1 && i > 0 ? "" : c + (i > 0 ? "*" : ""));
                want.append(i == 0 ? "" : i == 1 ? "x" : "x^" + i);
            }
        }
        want.append(")");
        Check.due("the long text", Typist.text(s, 3), want.toString());
    }

    private static void lines() {
        RationalSession s = new RationalSession();
        Typist.type(s, "%1:x");
        Check.due("line(-1)", s.line(-1), 4);
        Check.due("line(least)", s.line(Integer.MIN_VALUE), 4);
        Check.due("line(0)", s.line(0), '%');
        Check.due("line(3)", s.line(3), 'x');
        Check.due("line(4)", s.line(4), REFUSED);
        s.back();
        Check.due("line(3) after back()", s.line(3), REFUSED);
        Check.due("line(-1) after back()", s.line(-1), 3);
        s.reset();
        Typist.type(s, FULL_LINE);
        Check.due("line(31)", s.line(31), 'x');
        Check.due("line(32)", s.line(32), REFUSED);
        Check.due("line(most)", s.line(Integer.MAX_VALUE), REFUSED);
        s.enter();
        Check.due("line(0) after enter()", s.line(0), REFUSED);
    }

    private static void resetting() {
        RationalSession s = new RationalSession();
        Typist.enter(s, "a:x");
        Typist.enter(s, "b:x+1");
        Typist.enter(s, "c:x^2");
        Typist.enter(s, "x+");
        Typist.type(s, "x+1");
        s.reset();
        checkEmpty("after reset", s);
        s.reset();
        Check.due("labels start again", Typist.enter(s, "x^2"), 1);
        Check.due("shape numbers start again", s.shape(1), 1);
        Check.due("shapes()", s.shapes(), 1);
        for (int name = 0; name < 3; name++) {
            Check.due("names stay forgotten", s.bound(name), 0);
            Check.due("names stay forgotten", Typist.enter(s, "" + (char) ('a' + name)), UNBOUND);
        }
        for (int i = 2; i <= 40; i++) {
            Typist.enter(s, "1");
        }
        Check.due("full", Typist.enter(s, "1"), FULL);
        s.reset();
        Check.due("room after reset", Typist.enter(s, "1"), 1);
        Check.due("its text", Typist.text(s, 1), "1");
    }
}
