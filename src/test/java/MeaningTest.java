/** What the document's "Terms" say of a line's meaning, sentence by sentence: each at its boundary and beyond. */
public final class MeaningTest {
    private static final int FULL = RationalSession.FULL;
    private static final int UNBOUND = RationalSession.UNBOUND;
    private static final int DIVIDE = RationalSession.DIVIDE;
    private static final int TOO_BIG = RationalSession.TOO_BIG;

    public static void main(String[] args) {
        numbers();
        coefficients();
        denominatorsLead();
        commonDivisors();
        zeroFunction();
        oneForm();
        bigForms();
        operands();
        operations();
        leadingMinus();
        powersOfFunctions();
        negativePowers();
        derivatives();
        substitutions();
        fromLeftToRight();
        asSoonAsPossible();
        firstTrouble();
        unbound();
        divisionByZero();
        negativePowersOfZero();
        zeroDenominators();
        bigResultsOfOperations();
        bigDerivatives();
        bigSubstitutions();
        bigPowers();
        bigNegatives();
        neverBig();
        labels();
        sameShape();
        orderOfShapes();
        namesAtFirst();
        Check.end();
    }

    private static void sentence(String words) {
        Check.sentence("Terms", words);
    }

    private static void numbers() {
        sentence("NUMBERS are 0 .. 10006, taken modulo 10007");
        Fresh.text("0", "0");
        Fresh.text("10006", "10006");
        Fresh.text("10006+1", "0");
        Fresh.text("10006+2", "1");
        Fresh.text("10006+10006", "10005");
        Fresh.text("0-1", "10006");
        Fresh.text("0-10006", "1");
        Fresh.text("-10006", "1");
        Fresh.text("-0", "0");
        Fresh.text("10006*10006", "1");
        Fresh.text("100*100", "10000");
        Fresh.text("101*101", "194");
        Fresh.text("1/10006", "10006");
        Fresh.text("1/2", "5004");
        Fresh.text("10006^12", "1");
        Fresh.text("10006^11", "10006");
        Fresh.text("3^12", "1070");
    }

    private static void coefficients() {
        sentence("A POLYNOMIAL in x has numbers as coefficients");
        Fresh.text("10006*x+x", "0");
        Fresh.text("10006*x^12+x^12+x", "x");
        Fresh.text("10006*x^12+2*x^12+x", "x^12+x");
        Fresh.text("0-x^12", "10006*x^12");
        Fresh.text("(10006*x^6)*(10006*x^6)", "x^12");
        Fresh.text("d(10006*x^12)", "9995*x^11");
    }

    private static void denominatorsLead() {
        sentence("D's highest coefficient is 1");
        Fresh.text("1/(3*x)", "(3336)/(x)");
        Fresh.text("10006/(10006*x)", "(1)/(x)");
        Fresh.text("1/(10006*x^12+1)", "(10006)/(x^12+10006)");
        Fresh.text("(2*x)^-2", "(2502)/(x^2)");
        Fresh.text("x^2/7/(x+9)", "(7148*x^2)/(x+9)");
        Fresh.text("1/7", "7148");
        Fresh.text("x/7", "7148*x");
        Fresh.text("s(1/x,2*x)", "(5004)/(x)");
    }

    private static void commonDivisors() {
        sentence("no polynomial of degree 1 or more divides both");
        Fresh.text("(x^2-1)/(x-1)", "x+1");
        Fresh.text("(x-1)/(x^2-1)", "(1)/(x+1)");
        Fresh.text("(x+1)/(2*x+2)", "5004");
        Fresh.text("(x+1)^12/(x+1)^12", "1");
        Fresh.text("(x+1)^12/(x+1)^11", "x+1");
        Fresh.text("(x+1)^11/(x+1)^12", "(1)/(x+1)");
        Fresh.text("(x^12-1)/(x^6-1)", "x^6+1");
        Fresh.text("(x^6-1)/(x^12-1)", "(1)/(x^6+1)");
        Fresh.text("(x^12-1)/(x^8-1)", "(x^8+x^4+1)/(x^4+1)");
        Fresh.text("1/x+1/x", "(2)/(x)");
        Fresh.text("1/x-1/(x+1)", "(1)/(x^2+x)");
        Fresh.text("x^12*x^-12", "1");
        Fresh.text("x^12*x^-11", "x");
        Fresh.text("d(1/x)", "(10006)/(x^2)");
        Fresh.text("d(1/x^11)", "(9996)/(x^12)");
        Fresh.text("(x^2-1)/(x^2+2*x+1)", "(x+10006)/(x+1)");
    }

    private static void zeroFunction() {
        sentence("the zero function is 0 / 1");
        for (String line : new String[] {"0", "x-x", "0/x", "0*x^-12", "1/x-1/x", "d(7)", "s(x,0)", "0^1", "0^12", "-0",
                "10007*x", "10007/x", "s(x-x,1/x)", "d(x)-1", "0/99999", "(x-x)/(x^12+5)"}) {
            checkZeroFunction(line);
        }
    }

    private static void oneForm() {
        sentence("Every quotient of polynomials, the divisor not zero, has exactly one FORM");
        Fresh.same("x+1", "(x^2-1)/(x-1)");
        Fresh.same("1/x", "x^-1");
        Fresh.same("5/(5*x)", "x^11/x^12");
        Fresh.same("0", "(x-x)/(x+1)");
        Fresh.same("10007", "0/(x^12+x+1)");
        Fresh.same("x^12/(3*x^12+3)", "3336*x^12/(x^12+1)");
        Fresh.same("s(x^12+1,1/x)", "(1+x^12)/x^12");
    }

    private static void bigForms() {
        sentence("A FORM is BIG if N or D has a degree above 12");
        Fresh.text("x^12", "x^12");
        Fresh.text("x^-12", "(1)/(x^12)");
        Fresh.text("x^12/(x^12+1)", "(x^12)/(x^12+1)");
        Fresh.text("x*x^11", "x^12");
        Fresh.text("1/x/x^11", "(1)/(x^12)");
        Fresh.answer("x*x^12", TOO_BIG);
        Fresh.answer("x^12*x^12", TOO_BIG);
        Fresh.answer("1/x/x^12", TOO_BIG);
        Fresh.answer("x^-12/x^12", TOO_BIG);
        Fresh.answer("x^12*x/(x^12+1)", TOO_BIG);
        Fresh.answer("x/(x+1)*(x^12/(x^12+2))", TOO_BIG);
        Fresh.answer("1/x^12/(x+1)", TOO_BIG);
        // 12 over 13 and 13 over 12: one of the two is enough.
        Fresh.answer("(x+1)^12/x^12/(x+2)", TOO_BIG);
        Fresh.answer("(x+1)^12/x^12*(x+2)", TOO_BIG);
        // The degree is that of the reduced FORM.
        Fresh.text("(x^12+x)/(x^12+x)", "1");
        Fresh.text("x^12*(x/x)", "x^12");
        Fresh.text("(x+1)/x^12*(x^12/(x+1))", "1");
    }

    private static void operands() {
        sentence("x the letter; a name the FORM it is bound to; %k the FORM of label k");
        RationalSession s = new RationalSession();
        Typist.enter(s, "a:x+1");
        Typist.enter(s, "b:a");
        Typist.enter(s, "a:1/a");
        Check.due("a*b/%1", Typist.enter(s, "a*b/%1"), 4);
        Check.due("a*b/%1: text", Typist.text(s, 4), "(1)/(x+1)");
        Check.due("b", Typist.enter(s, "b"), 5);
        Check.due("b is what a was, not what a is", Typist.text(s, 5), "x+1");
        Check.due("s(a,b)", Typist.enter(s, "s(a,b)"), 6);
        Check.due("s(a,b): text", Typist.text(s, 6), "(1)/(x+2)");
    }

    private static void operations() {
        sentence("+ - * / are those of functions");
        Fresh.text("8-3-2", "3");
        Fresh.text("8/4/2", "1");
        Fresh.text("8/4*2", "4");
        Fresh.text("2+3*4", "14");
        Fresh.text("(2+3)*4", "20");
        Fresh.text("2*3^2", "18");
        Fresh.text("2-3*4-5", "9992");
        Fresh.text("1/x+1/(x+1)", "(2*x+1)/(x^2+x)");
        // As many sides waiting at once as a line can have, and as many operands.
        Fresh.text("1+2*s(x,1+2*s(x,1+2*s(x,1+2*x)))", "16*x+15");
        Fresh.text("1+2-3*4+5*6-7/7+8-9*1*2*3+4+5-6", "9984");
    }

    private static void leadingMinus() {
        sentence("a leading - takes its term's negative (before what is added to it)");
        Fresh.text("-x+3", "10006*x+3");
        Fresh.text("-x^2*2+x", "10005*x^2+x");
        Fresh.text("-2^2", "10003");
        Fresh.text("-2*3+10", "4");
        Fresh.text("-(x+1)-x", "10005*x+10006");
        Fresh.text("(-x)^2", "x^2");
        Fresh.text("-x^12/(x^12+1)", "(10006*x^12)/(x^12+1)");
    }

    private static void powersOfFunctions() {
        sentence("f^k is f times itself k times (1 for k = 0, for f = 0 too)");
        for (String base : new String[] {"0", "(x-x)", "10007", "1", "x", "(x^12)", "(1/x^12)", "d(3)"}) {
            Fresh.text(base + "^0", "1");
            Fresh.text(base + "^00", "1");
            Fresh.same(base, base + "^1");
        }
        Fresh.text("0^12", "0");
        Fresh.text("(x+1)^2", "x^2+2*x+1");
        Fresh.text("((x+1)/x)^2", "(x^2+2*x+1)/(x^2)");
    }

    private static void negativePowers() {
        sentence("f^-k is 1 / f^k");
        Fresh.text("2^-1", "5004");
        Fresh.text("0^-0", "1");
        Fresh.text("0^-00", "1");
        Fresh.text("x^-0", "1");
        Fresh.text("(1/x^12)^-1", "x^12");
        Fresh.text("(x/(x+1))^-2", "(x^2+2*x+1)/(x^2)");
    }

    private static void derivatives() {
        sentence("d(f) is the derivative by x");
        Fresh.text("d(0)", "0");
        Fresh.text("d(10006)", "0");
        Fresh.text("d(x)", "1");
        Fresh.text("d(x^12)", "12*x^11");
        Fresh.text("d(x^3)^2", "9*x^4");
        Fresh.text("d(d(x^3+x))", "6*x");
        Fresh.text("d((x+1)/(x+2))", "(1)/(x^2+4*x+4)");
    }

    private static void substitutions() {
        sentence("s(f,g) is f with g in x's place: N(g) / D(g)");
        Fresh.text("s(x^2+1,x+1)", "x^2+2*x+2");
        Fresh.text("s(x,s(x^2,x+1))", "x^2+2*x+1");
        Fresh.text("s(1/x,1/x)", "x");
        Fresh.text("s(x^2+x,1/x)", "(x+1)/(x^2)");
        Fresh.text("s(1/(x^2+x),1/x)", "(x^2)/(x+1)");
        Fresh.text("s(5,1/x)", "5");
        Fresh.text("s(x^12,10006)", "1");
        Fresh.text("s(x/(x^2+1),0)", "0");
        Fresh.text("s((x^2-4)/(x-2),2)", "4");
    }

    private static void fromLeftToRight() {
        sentence("a sum's, term's parts and s's two from left to right");
        Fresh.answer("a+1/0", UNBOUND);
        Fresh.answer("1/0+a", DIVIDE);
        Fresh.answer("a*(1/0)", UNBOUND);
        Fresh.answer("(1/0)*a", DIVIDE);
        Fresh.answer("a/0^-1", UNBOUND);
        Fresh.answer("0^-1/a", DIVIDE);
        Fresh.answer("a-x*x^12", UNBOUND);
        Fresh.answer("x*x^12-a", TOO_BIG);
        Fresh.answer("s(a,1/0)", UNBOUND);
        Fresh.answer("s(1/0,a)", DIVIDE);
        Fresh.answer("s(x*x^12,1/0)", TOO_BIG);
        Fresh.answer("s(1/0,x*x^12)", DIVIDE);
    }

    private static void asSoonAsPossible() {
        sentence("each operation as soon as both its sides are worked out, the first of them before the next part");
        Fresh.answer("1/0*a", DIVIDE);
        Fresh.answer("1*a/0", UNBOUND);
        Fresh.answer("x*x^12*a", TOO_BIG);
        Fresh.answer("x*a*x^12", UNBOUND);
        Fresh.answer("1+1/0*a", DIVIDE);
        Fresh.answer("1+a/0", UNBOUND);
        Fresh.answer("x^12+1/x-a", TOO_BIG);
        Fresh.answer("x^12+1/x*a", UNBOUND);
        Fresh.answer("x^12+1/x+1/0", TOO_BIG);
        Fresh.answer("x^12+1/x/0", DIVIDE);
        Fresh.answer("x*x^12/0", TOO_BIG);
        Fresh.answer("x/0*x^12", DIVIDE);
        Fresh.answer("-x*x^12+a", TOO_BIG);
        Fresh.answer("-a+x*x^12", UNBOUND);
        Fresh.answer("(x^7)^2+a", TOO_BIG);
        Fresh.answer("0^-1+a", DIVIDE);
        Fresh.answer("d(x^-12)*a", TOO_BIG);
        Fresh.answer("s(1/x,0)+a", DIVIDE);
        Fresh.answer("s(x^7,x^2)*(1/0)", TOO_BIG);
    }

    private static void firstTrouble() {
        sentence("The first trouble ends it");
        Fresh.answer("0*(1/0)+a", DIVIDE);
        Fresh.answer("x*x^12-x*x^12", TOO_BIG);
        Fresh.answer("x*x^12/x", TOO_BIG);
        Fresh.answer("(x*x^12)^0", TOO_BIG);
        Fresh.answer("0*(x*x^12)", TOO_BIG);
        Fresh.answer("(1/0)^0", DIVIDE);
        Fresh.answer("s(7,1/0)", DIVIDE);
        Fresh.answer("s(0,x*x^12)", TOO_BIG);
        Fresh.answer("x^12/x*x", 1);
    }

    private static void unbound() {
        sentence("a name not bound or a label that isn't there: UNBOUND");
        for (String line : new String[] {"a", "b", "c", "a:a", "b:b+1", "0*c", "a^0", "a-a", "d(a)", "s(1,a)", "s(a,1)", "(a)",
                "-a", "%0", "%00", "%1", "%01", "%40", "%41", "%99", "0*%1", "a:%1"}) {
            Fresh.answer(line, UNBOUND);
        }
        RationalSession s = new RationalSession();
        Check.due("c:7", Typist.enter(s, "c:7"), 1);
        Check.due("a when c is bound", Typist.enter(s, "a"), UNBOUND);
        Check.due("%2 when 1 is there", Typist.enter(s, "%2"), UNBOUND);
        Check.due("%0 when 1 is there", Typist.enter(s, "%0"), UNBOUND);
        Check.due("a line's own label", Typist.enter(s, "x+%2"), UNBOUND);
        Check.due("%1 and c", Typist.enter(s, "%1-c"), 2);
    }

    private static void divisionByZero() {
        sentence("a division by the zero function: DIVIDE");
        for (String line : new String[] {"1/0", "0/0", "1/00000", "1/10007", "x/(x-x)", "1/d(5)", "x^12/(0*x)", "1/(1/x-1/x)",
                "1/s(x,0)", "1/0^1"}) {
            Fresh.answer(line, DIVIDE);
        }
        Fresh.answer("0/1", 1);
        Fresh.answer("1/0^0", 1);
        Fresh.answer("1/10006", 1);
    }

    private static void negativePowersOfZero() {
        sentence("0^-k with k above 0: DIVIDE");
        for (int k = 1; k <= 12; k++) {
            Fresh.answer("0^-" + k, DIVIDE);
            Fresh.answer("(x-x)^-" + k, DIVIDE);
            Fresh.answer("0^" + k, 1);
            Fresh.answer("1^-" + k, 1);
        }
        Fresh.answer("0^-01", DIVIDE);
        Fresh.answer("10007^-1", DIVIDE);
        Fresh.answer("0^-0", 1);
    }

    private static void zeroDenominators() {
        sentence("D(g) being zero: DIVIDE");
        Fresh.answer("s(1/x,0)", DIVIDE);
        Fresh.answer("s(1/x,x-x)", DIVIDE);
        Fresh.answer("s(0-1/x^12,10007)", DIVIDE);
        Fresh.answer("s(x/(x^2-4),2)", DIVIDE);
        Fresh.answer("s(x/(x^2-4),0-2)", DIVIDE);
        Fresh.answer("s(x/(x^2-4),3)", 1);
        Fresh.answer("s(1/x,1)", 1);
        Fresh.answer("s(0/x,0)", 1);
        Fresh.answer("s((x^2-x)/x,0)", 1);
    }

    private static void bigResultsOfOperations() {
        sentence("a result (of any operation) that is BIG: TOO_BIG");
        Fresh.answer("x^12+1/(x+1)", TOO_BIG);
        Fresh.answer("x^11+1/(x+1)", 1);
        Fresh.answer("x^12-1/(x+1)", TOO_BIG);
        Fresh.answer("x^11-1/(x+1)", 1);
        Fresh.answer("1/(x^6+1)+1/(x^6+2)", 1);
        Fresh.answer("1/(x^6+1)+1/(x^7+2)", TOO_BIG);
        Fresh.answer("1/(x^7+1)+1/(x^7+1)", 1);
        Fresh.answer("1/(x^7+1)-1/(x^7+2)", TOO_BIG);
        Fresh.answer("x^11*(x+1)", 1);
        Fresh.answer("x^11*(x^2+1)", TOO_BIG);
        Fresh.answer("1/x^6*(1/x^6)", 1);
        Fresh.answer("1/x^6*(1/x^7)", TOO_BIG);
        Fresh.answer("x^6/x^-6", 1);
        Fresh.answer("x^6/x^-7", TOO_BIG);
    }

    private static void bigDerivatives() {
        sentence("a result (of d) that is BIG: TOO_BIG");
        Fresh.answer("d(x^12)", 1);
        Fresh.answer("d(x^-11)", 1);
        Fresh.answer("d(x^-12)", TOO_BIG);
        Fresh.answer("d(1/(x^6+1))", 1);
        Fresh.answer("d(1/(x^7+1))", TOO_BIG);
    }

    private static void bigSubstitutions() {
        sentence("a result (of s) that is BIG: TOO_BIG");
        Fresh.answer("s(x^3,x^4)", 1);
        Fresh.answer("s(x^3,x^5)", TOO_BIG);
        Fresh.answer("s(x^3,x^-4)", 1);
        Fresh.answer("s(x^-7,x^2)", TOO_BIG);
        Fresh.answer("s(x^-7,x^-2)", TOO_BIG);
        Fresh.answer("s(x^12,x^12)", TOO_BIG);
        Fresh.answer("s(x^-12,x^12)", TOO_BIG);
        Fresh.answer("s(x^12,x^-12)", TOO_BIG);
        Fresh.answer("s(x/(x^12+1),x^12+1)", TOO_BIG);
        Fresh.answer("s(x^12+1,x/(x^12+1))", TOO_BIG);
        Fresh.answer("s(x^12,7)", 1);
        Fresh.answer("s(7,x^12)", 1);
        Fresh.answer("s(x^12,x)", 1);
        Fresh.answer("s(x,x^-12)", 1);
        Fresh.answer("s(x^6/(x^6+1),x^2+1)", 1);
        Fresh.answer("s(x^6/(x^6+1),x^3)", TOO_BIG);
        Fresh.answer("s(x^12/(x^12+1),1/x)", 1);
        Fresh.answer("s(x^12/(x+2),1/(x+1))", 1);
    }

    private static void bigPowers() {
        sentence("a result (of a power) that is BIG: TOO_BIG");
        Fresh.answer("(x^4)^3", 1);
        Fresh.answer("(x^6)^2", 1);
        Fresh.answer("(x^7)^2", TOO_BIG);
        Fresh.answer("(x^2)^7", TOO_BIG);
        Fresh.answer("(x^12)^12", TOO_BIG);
        Fresh.answer("(1/x^6)^2", 1);
        Fresh.answer("(1/x^7)^2", TOO_BIG);
        Fresh.answer("(x^6)^-2", 1);
        Fresh.answer("(x^7)^-2", TOO_BIG);
        Fresh.answer("(1/x^12)^12", TOO_BIG);
        Fresh.answer("(x^12)^-12", TOO_BIG);
        Fresh.answer("(x/(x^12+1))^2", TOO_BIG);
        Fresh.answer("(x/(x^12+1))^12", TOO_BIG);
        Fresh.answer("(x^12)^0", 1);
        Fresh.answer("(x^12)^-1", 1);
    }

    private static void bigNegatives() {
        sentence("a result (of a leading -) that is BIG: TOO_BIG");
        Fresh.answer("-x^12", 1);
        Fresh.answer("-x^-12", 1);
        Fresh.answer("-x*x^12", TOO_BIG);
    }

    private static void neverBig() {
        sentence("Literals, x, names and labels alone are never BIG");
        RationalSession s = new RationalSession();
        Check.due("99999", Typist.enter(s, "99999"), 1);
        Check.due("x", Typist.enter(s, "x"), 2);
        Check.due("a:x^12", Typist.enter(s, "a:(x+1)^12"), 3);
        Check.due("a", Typist.enter(s, "a"), 4);
        Check.due("%3", Typist.enter(s, "%3"), 5);
        Check.due("a:1/a", Typist.enter(s, "a:x^12/a"), 6);
        Check.due("a", Typist.enter(s, "a"), 7);
        Check.due("%6", Typist.enter(s, "%6"), 8);
        Check.due("a*x", Typist.enter(s, "a*x"), TOO_BIG);
    }

    private static void labels() {
        sentence("LABELS 1, 2, .. (at most 40) are given to the lines worked out, in order");
        RationalSession s = new RationalSession();
        for (int i = 1; i <= 40; i++) {
            Check.due("a line that is not good", Typist.enter(s, "x+"), RationalSession.SYNTAX);
            Check.due("a line with a trouble", Typist.enter(s, "%" + i), UNBOUND);
            Check.due("line " + i, Typist.enter(s, i == 1 ? "1" : "%" + (i - 1) + "+1"), i);
        }
        Check.due("line 40", Typist.text(s, 40), "40");
        Check.due("line 41", Typist.enter(s, "41"), FULL);
        Check.due("labels()", s.labels(), 40);
        Check.due("label 41", s.shape(41), RationalSession.REFUSED);
    }

    private static void sameShape() {
        sentence("Two labels with the same FORM have the same SHAPE NUMBER");
        RationalSession same = new RationalSession();
        for (int i = 1; i <= 40; i++) {
            Typist.enter(same, "x^" + i % 3 + "+" + (i % 3 == 0 ? "10006" : "0"));
            Check.due("shape(" + i + ")", same.shape(i), i < 3 ? i : (i - 1) % 3 + 1);
        }
        Check.due("shapes()", same.shapes(), 3);
        RationalSession parts = new RationalSession();
        Typist.enter(parts, "x");
        Typist.enter(parts, "x/(x+1)");
        Typist.enter(parts, "1/(x+1)");
        Typist.enter(parts, "x+1");
        Check.due("N alone is not enough, nor is D", parts.shapes(), 4);
    }

    private static void orderOfShapes() {
        sentence("these are given 1, 2, .. in order of first appearance");
        RationalSession many = new RationalSession();
        for (int i = 1; i <= 40; i++) {
            Typist.enter(many, i + "*x");
            Check.due("shape(" + i + ")", many.shape(i), i);
        }
        RationalSession mixed = new RationalSession();
        String[] lines = {"x", "x+1", "1/x", "(x^2+x)/(x+1)", "x^-1", "-x", "10006*x", "x^0", "1", "(x^2-1)/(x-1)", "2"};
        int[] numbers = {1, 2, 3, 1, 3, 4, 4, 5, 5, 2, 6};
        for (int i = 0; i < lines.length; i++) {
            Typist.enter(mixed, lines[i]);
            Check.due("shape of " + lines[i], mixed.shape(i + 1), numbers[i]);
        }
    }

    private static void namesAtFirst() {
        sentence("Names are not bound at first");
        RationalSession names = new RationalSession();
        for (int name = 0; name < 3; name++) {
            Check.due("bound(" + name + ")", names.bound(name), 0);
            Check.due("line " + (char) ('a' + name), Typist.enter(names, "" + (char) ('a' + name)), UNBOUND);
        }
    }

    private static void checkZeroFunction(String line) {
        RationalSession s = new RationalSession();
        Check.due(line, Typist.enter(s, line), 1);
        Check.due(line + ": degree of N", s.degree(1, false), -1);
        Check.due(line + ": degree of D", s.degree(1, true), 0);
        Check.due(line + ": D", s.coefficient(1, true, 0), 1);
        Check.due(line + ": text", Typist.text(s, 1), "0");
    }
}
