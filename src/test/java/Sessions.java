/** Sessions in states that several tests start from, and checks of a whole state. */
final class Sessions {
    static final int LEAST = Integer.MIN_VALUE;
    static final int MOST = Integer.MAX_VALUE;
    static final String CHARACTERS = "0123456789xabcds%+-*/^(),:";
    /** 32 characters; not a good line, for its last one. */
    static final String FULL_LINE = "x+x+x+x+x+x+x+x+x+x+x+x+x+x+x+x:";

    private Sessions() {
    }

    /** Three labels of two shapes, the name b, a BAD PLACE of 2, and a line of three characters. */
    static RationalSession used() {
        RationalSession s = new RationalSession();
        Typist.enter(s, "x+");
        Typist.enter(s, "b:(x^2+3)/(2*x-10)");
        Typist.enter(s, "0");
        Typist.enter(s, "b");
        Typist.type(s, "x^2");
        return s;
    }

    /** All 40 labels, each of its own shape; label k is k*x, and b is the last. */
    static RationalSession full() {
        RationalSession s = new RationalSession();
        for (int i = 1; i <= 40; i++) {
            Typist.enter(s, "b:" + i + "*x");
        }
        return s;
    }

    static int[] wrongLabels(int given) {
        return new int[] {0, -1, given + 1, given + 40, -40, 256 + 1, 65536 + 1, LEAST, LEAST + 1, MOST};
    }

    /** As a new object is. Some lines are entered at the end. */
    static void checkEmpty(String when, RationalSession s) {
        Check.due(when + ": line(-1)", s.line(-1), 0);
        Check.due(when + ": line(0)", s.line(0), RationalSession.REFUSED);
        Check.due(when + ": labels()", s.labels(), 0);
        Check.due(when + ": shapes()", s.shapes(), 0);
        Check.due(when + ": badPlace()", s.badPlace(), -1);
        for (int name = 0; name < 3; name++) {
            Check.due(when + ": bound(" + name + ")", s.bound(name), 0);
        }
        for (int label : wrongLabels(0)) {
            checkNoLabel(when, s, label);
        }
        Check.due(when + ": back()", s.back(), RationalSession.REFUSED);
        for (String line : new String[] {"a", "b", "c", "x+b", "%1", "%2", "%40"}) {
            Check.due(when + ": " + line, Typist.enter(s, line), RationalSession.UNBOUND);
        }
    }

    private static void checkNoLabel(String when, RationalSession s, int label) {
        String what = when + ", label " + label + ": ";
        Check.due(what + "shape", s.shape(label), RationalSession.REFUSED);
        for (boolean denominator : new boolean[] {false, true}) {
            Check.due(what + "degree", s.degree(label, denominator), RationalSession.REFUSED);
            Check.due(what + "coefficient", s.coefficient(label, denominator, 0), RationalSession.REFUSED);
        }
        Check.due(what + "value", s.value(label, 0), RationalSession.REFUSED);
        Check.due(what + "text", s.text(label, 0), RationalSession.REFUSED);
    }
}
