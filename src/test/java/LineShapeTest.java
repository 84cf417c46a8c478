/** What the document's "Terms" say of the line's shape, sentence by sentence: each at its boundary and beyond. */
public final class LineShapeTest {
    private static final int FULL = RationalSession.FULL;
    private static final int UNBOUND = RationalSession.UNBOUND;
    private static final String ALLOWED = "0123456789xabcds%+-*/^(),:";

    public static void main(String[] args) {
        lineLength();
        lineCharacters();
        lines();
        sums();
        terms();
        powers();
        atoms();
        exponents();
        literalsWorth();
        literals();
        asManyDigits();
        labelsOfOneOrTwoDigits();
        openings();
        eightOpenings();
        firstBadCharacter();
        ninthOpening();
        tooShort();
        digitTooMany();
        exponentTooGreat();
        openingTooMany();
        emptyLine();
        Check.end();
    }

    private static void sentence(String words) {
        Check.sentence("Terms", words);
    }

    private static void lineLength() {
        sentence("THE LINE is a text of at most 32 characters, empty at first");
        RationalSession s = new RationalSession();
        Check.due("length at first", s.line(-1), 0);
        String longest = "x+x+x+x+x+x+x+x+x+x+x+x+x+x+x+10";
        Check.due("32 characters", Typist.type(s, longest), 32);
        Check.due("a 33rd", s.type('1'), FULL);
        Check.due("all 32 are read", s.enter(), 1);
        Check.due("all 32 are worked out", Typist.text(s, 1), "15*x+10");
    }

    private static void lineCharacters() {
        sentence("Its characters are digits, x, the names a b c, d, s, % and + - * / ^ ( ) , :");
        for (int c = 0; c < 256; c++) {
            RationalSession one = new RationalSession();
            boolean allowed = c > 0 && ALLOWED.indexOf(c) >= 0;
            Check.due("type(" + c + ")", one.type(c), allowed ? 1 : RationalSession.REFUSED);
            Check.due("length after type(" + c + ")", one.line(-1), allowed ? 1 : 0);
        }
    }

    private static void lines() {
        sentence("line: sum, or a name, the character :, and a sum");
        for (String name : new String[] {"a", "b", "c"}) {
            Fresh.answer(name + ":x", 1);
            Fresh.answer(name + ":-x", 1);
            Fresh.place(name + ":", 2);
            Fresh.place(name + "::x", 2);
        }
        Fresh.place("d:x", 1);
        Fresh.place("s:x", 1);
        Fresh.place("x:x", 1);
        Fresh.place("1:x", 1);
        Fresh.place(":x", 0);
        Fresh.place("+a:x", 2);
        Fresh.place("(a:x)", 2);
        Fresh.place("a:b:x", 3);
        Fresh.place("ab:x", 1);
        Fresh.place("%1:x", 2);
    }

    private static void sums() {
        sentence("sum: a term, or + or - and a term; then any number of times + or - and a term");
        Fresh.text("x", "x");
        Fresh.text("+x", "x");
        Fresh.text("-x", "10006*x");
        Fresh.text("-1+2-3+4-5+6-7+8-9+1-2+3-4+5-6+7", "10006");
        Fresh.place("++x", 1);
        Fresh.place("--x", 1);
        Fresh.place("+-x", 1);
        Fresh.place("x+-x", 2);
        Fresh.place("x--x", 2);
        Fresh.place("*x", 0);
    }

    private static void terms() {
        sentence("term: a power, then any number of times * or / and a power");
        Fresh.text("1*2/2*3/3*4/4*5/5*6/6*7/7*8/8*9", "9");
        Fresh.place("x**x", 2);
        Fresh.place("x*/x", 2);
        Fresh.place("x*-x", 2);
        Fresh.place("x/+x", 2);
        Fresh.place("xx", 1);
        Fresh.place("2x", 1);
        Fresh.place("x2", 1);
        Fresh.place("x(x)", 1);
        Fresh.place("(x)(x)", 3);
        Fresh.place("(x)2", 3);
        Fresh.place("%1%1", 2);
    }

    private static void powers() {
        sentence("power: an atom, or an atom, ^ and an exponent, or an atom, ^, - and an exponent");
        Fresh.text("x^2", "x^2");
        Fresh.text("x^-2", "(1)/(x^2)");
        Fresh.text("(x)^2", "x^2");
        Fresh.text("d(x^2)^2", "4*x^2");
        Fresh.text("s(x,x)^2", "x^2");
        Fresh.text("3^2", "9");
        Fresh.place("^2", 0);
        Fresh.place("x^+2", 2);
        Fresh.place("x^--2", 3);
        Fresh.place("x^2^2", 3);
        Fresh.place("x^-2^2", 4);
        Fresh.place("x^x", 2);
        Fresh.place("x^a", 2);
        Fresh.place("x^(2)", 2);
        Fresh.place("x^%1", 2);
    }

    private static void atoms() {
        sentence("atom: a literal, 1 .. 5 digits; x; a name; % and one or two digits, a label; ( sum ); d( sum ); s( sum , sum )");
        Fresh.text("(-x)", "10006*x");
        Fresh.text("d(-x)", "10006");
        Fresh.text("s(-x,-x)", "x");
        Fresh.place("()", 1);
        Fresh.place("d()", 2);
        Fresh.place("s()", 2);
        Fresh.place("s(,x)", 2);
        Fresh.place("s(x,)", 4);
        Fresh.place("s(x)", 3);
        Fresh.place("s(x,x,x)", 5);
        Fresh.place("d(x,x)", 3);
        Fresh.place("(x,x)", 2);
        Fresh.place("s((x,x))", 4);
        Fresh.place("x,x", 1);
        Fresh.place("dx", 1);
        Fresh.place("sx", 1);
        Fresh.place("d^2", 1);
        Fresh.place("s^2", 1);
        Fresh.place(")", 0);
        Fresh.place(",", 0);
        Fresh.place("x)", 1);
        Fresh.place("(x))", 3);
    }

    private static void exponents() {
        sentence("An exponent is one or two digits worth 0 .. 12");
        for (int worth = 0; worth <= 99; worth++) {
            String two = "" + (char) ('0' + worth / 10) + (char) ('0' + worth % 10);
            if (worth <= 12) {
                exponent(two, worth);
            } else {
                Fresh.place("x^" + two, 3);
                Fresh.place("x^-" + two, 4);
            }
            if (worth <= 9) {
                exponent("" + worth, worth);
            }
        }
    }

    private static void literalsWorth() {
        sentence("A literal is its worth modulo 10007");
        Fresh.text("10007", "0");
        Fresh.text("10008", "1");
        Fresh.text("20013", "10006");
        Fresh.text("20014", "0");
        Fresh.text("90063", "0");
        Fresh.text("99999", "9936");
    }

    private static void literals() {
        sentence("a literal, 1 .. 5 digits");
        Fresh.text("7", "7");
        Fresh.text("12", "12");
        Fresh.text("123", "123");
        Fresh.text("1234", "1234");
        Fresh.text("12345", "2338");
        Fresh.text("00000", "0");
        Fresh.text("00007", "7");
        Fresh.place("123456", 5);
        Fresh.place("000000", 5);
        Fresh.place("000001", 5);
        Fresh.place("x*999999", 7);
    }

    /** Labels 1, x, to 12, 12*x. */
    private static RationalSession twelveLabels() {
        RationalSession s = new RationalSession();
        for (int i = 1; i <= 12; i++) {
            Typist.enter(s, i + "*x");
        }
        return s;
    }

    private static void asManyDigits() {
        sentence("a literal, exponent or label taking as many digits as follow each other");
        RationalSession s = twelveLabels();
        Check.due("%12", Typist.enter(s, "%12"), 13);
        Check.due("%12 is label 12, not 1 and then 2", Typist.text(s, 13), "12*x");
        Check.due("x^12", Typist.enter(s, "x^12"), 14);
        Check.due("x^12 is the 12th power", Typist.text(s, 14), "x^12");
        Check.due("12345", Typist.enter(s, "12345"), 15);
        Check.due("12345 is one literal", Typist.text(s, 15), "2338");
    }

    private static void labelsOfOneOrTwoDigits() {
        sentence("% and one or two digits, a label");
        RationalSession s = twelveLabels();
        Check.due("%1", Typist.enter(s, "%1"), 13);
        Check.due("%1: shape", s.shape(13), 1);
        Check.due("%01", Typist.enter(s, "%01"), 14);
        Check.due("%01: shape", s.shape(14), 1);
        Check.due("%09", Typist.enter(s, "%09"), 15);
        Check.due("%09: shape", s.shape(15), 9);
        Check.due("%10", Typist.enter(s, "%10"), 16);
        Check.due("%10: shape", s.shape(16), 10);
        Check.due("%012", Typist.enter(s, "%012"), RationalSession.SYNTAX);
        Check.due("%012: badPlace()", s.badPlace(), 3);
        for (int label = 0; label <= 99; label++) {
            Fresh.good("%" + label);
            Fresh.answer("%" + label, UNBOUND);
        }
        Fresh.place("%", 1);
        Fresh.place("%x", 1);
        Fresh.place("%-1", 1);
        Fresh.place("%a", 1);
        Fresh.place("%(1)", 1);
    }

    private static void openings() {
        sentence("( with the d or s before it, if any, is an OPENING");
        Fresh.text("d(d(d(d(d(d(d(d(x))))))))", "0");
        Fresh.text("((((d(d(d(d(x^8))))))))", "1680*x^4");
        Fresh.text("(((((s(1,s(1,s(1,x))))))))", "1");
    }

    private static void eightOpenings() {
        sentence("at no place more than 8 openings may be open");
        Fresh.text("((((((((x))))))))", "x");
        Fresh.text("(((((((d(x))))))))", "1");
        Fresh.text("(((((((s(x,2))))))))", "2");
        // Eight at one place, not in all.
        Fresh.text("((((((((x))))))))+(x)", "2*x");
        Fresh.text("((((((((1))))))))*((((((x))))))", "x");
        Fresh.text("(((((((d(x)+(x))))))))", "x+1");
        Fresh.text("((((((s((x),(x))))))))", "x");
        Fresh.place("(((((((((x)))))))))", 8);
        Fresh.place("(((((((d(x)+((x", 13);
        Fresh.place("(((((((s(x,(", 11);
    }

    private static void firstBadCharacter() {
        sentence("the first character with which no good line of any length, with at most 8 open at any place, begins up to and with it");
        Fresh.place("x)x)x", 1);
        Fresh.place("xx+(", 1);
        Fresh.place("x+)*(", 2);
        Fresh.place("1/0)", 3);
        Fresh.place("a+b+)", 4);
        Fresh.place("x+x+x+x+x+x+x+x+x+x+x+x+x+x+x+xx", 31);
        Fresh.place("x+x+x+x+x+x+x+x+x+x+x+x+x+x+x+x:", 31);
    }

    private static void ninthOpening() {
        sentence("or opens a ninth");
        Fresh.place("(((((((((", 8);
        Fresh.place("d(d(d(d(d(d(d(d(d(x)))))))))", 16);
        Fresh.place("s(s(s(s(s(s(s(s(s(x", 16);
    }

    private static void tooShort() {
        sentence("it is the line's length if there is none, the line being too short");
        for (String line : new String[] {"+", "-", "a:", "a:-", "x+", "x-", "x*", "x/", "x^", "x^-", "%", "(", "(-", "(x", "d",
                "d(", "d(x", "s", "s(", "s(x", "s(x,", "s(x,-", "s(x,x", "((x)", "x+d", "x^12*", "((((((((x", "(((((((d",
                "(((((((d(", "(((((((s(x,", "x+x+x+x+x+x+x+x+x+x+x+x+x+x+x+x+", "(x+x+x+x+x+x+x+x+x+x+x+x+x+x+x+1",
                "((((((((x+x+x+x+x+x+x+x+x+x+x+12", "s(1,s(1,s(1,s(1,s(1,s(1,s(1,s(1,"}) {
            Fresh.place(line, line.length());
        }
    }

    private static void digitTooMany() {
        sentence("a digit that makes a literal's sixth digit, an exponent's or label's third");
        Fresh.place("123456", 5);
        Fresh.place("x+123456-", 7);
        Fresh.place("(000000", 6);
        Fresh.place("x^000", 4);
        Fresh.place("x^012", 4);
        Fresh.place("x^123", 4);
        Fresh.place("x^-012", 5);
        Fresh.place("%123", 3);
        Fresh.place("%000", 3);
        Fresh.place("x*%990", 5);
    }

    private static void exponentTooGreat() {
        sentence("or an exponent's worth more than 12");
        Fresh.place("x^13", 3);
        Fresh.place("x^-13", 4);
        Fresh.place("x^20", 3);
        Fresh.place("x^99)", 3);
        Fresh.place("(x+1)^13", 7);
    }

    private static void openingTooMany() {
        sentence("and a d, s or ( where 8 are open, is such a character");
        Fresh.place("((((((((d", 8);
        Fresh.place("((((((((s", 8);
        Fresh.place("((((((((d(x", 8);
        Fresh.place("((((((((s(x", 8);
        Fresh.place("((((((((-(", 9);
        Fresh.place("((((((((x+(", 10);
        Fresh.place("((((((((x+d(", 10);
        Fresh.place("((((((((x*s(", 10);
        Fresh.place("(((((((d((", 9);
        Fresh.place("(((((((s((", 9);
        Fresh.place("(((((((s(x,d(", 11);
    }

    private static void emptyLine() {
        sentence("An empty line is too short");
        Fresh.place("", 0);
    }

    private static void exponent(String digits, int worth) {
        RationalSession s = new RationalSession();
        Check.due("x^" + digits, Typist.enter(s, "x^" + digits), 1);
        Check.due("x^" + digits + ": N", s.degree(1, false), worth);
        Check.due("x^" + digits + ": D", s.degree(1, true), 0);
        Check.due("x^-" + digits, Typist.enter(s, "x^-" + digits), 2);
        Check.due("x^-" + digits + ": N", s.degree(2, false), 0);
        Check.due("x^-" + digits + ": D", s.degree(2, true), worth);
    }
}
