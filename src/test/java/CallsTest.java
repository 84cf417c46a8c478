/** "What it is" and "The public face": 512 calls on one object, and every call with any argument in any state. */
public final class CallsTest {
    private static final int CALLS = 512;
    private static final int[] NUMBERS = {Integer.MIN_VALUE, -10007, -1, 0, 1, 2, 3, 12, 13, 31, 32, 40, 41, 'a', 'x', 10007,
        Integer.MAX_VALUE};

    public static void main(String[] args) {
        manyLines();
        manyCharacters();
        manyTroubles();
        manyResets();
        manyQuestions();
        anyArgument();
        Check.end();
    }

    private static void sentence(String words) {
        Check.sentence("What it is", words);
    }

    /** 128 lines of three characters and an enter each: the last of the calls is the last enter. */
    private static void manyLines() {
        sentence("at most 512 calls after it has been made (lines)");
        RationalSession s = new RationalSession();
        for (int i = 1; i <= CALLS / 4; i++) {
            s.type(i % 2 == 0 ? 'x' : '7');
            s.type('*');
            s.type('3');
            Check.due("line " + i, s.enter(), i <= 40 ? i : RationalSession.FULL);
        }
    }

    private static void manyCharacters() {
        sentence("at most 512 calls after it has been made (characters)");
        RationalSession s = new RationalSession();
        for (int i = 1; i < CALLS; i++) {
            Check.due("type, call " + i, s.type('1'), i <= 32 ? i : RationalSession.FULL);
        }
        Check.due("the last call", s.line(-1), 32);
        RationalSession t = new RationalSession();
        for (int i = 1; i < CALLS; i += 2) {
            Check.due("types, call " + i, t.types(Typist.pack("x")), 1);
            Check.due("back, call " + (i + 1), t.back(), 0);
        }
    }

    private static void manyTroubles() {
        sentence("at most 512 calls after it has been made (lines that are not kept)");
        RationalSession s = new RationalSession();
        String[] lines = {"x+)", "7/0", "1-a", "%3"};
        int[] answers = {RationalSession.SYNTAX, RationalSession.DIVIDE, RationalSession.UNBOUND, RationalSession.UNBOUND};
        for (int i = 0; i < CALLS / 2 - 1; i++) {
            s.types(Typist.pack(lines[i % 4]));
            Check.due(lines[i % 4], s.enter(), answers[i % 4]);
        }
        s.type('x');
        Check.due("the last call", s.enter(), 1);
    }

    private static void manyResets() {
        sentence("at most 512 calls after it has been made (resets)");
        RationalSession s = new RationalSession();
        for (int i = 0; i < CALLS / 4; i++) {
            s.types(Typist.pack("c:x+1"));
            Check.due("enter", s.enter(), 1);
            Check.due("bound", s.bound(2), 1);
            s.reset();
        }
    }

    /** All labels are given; the other calls read texts to the end. */
    private static void manyQuestions() {
        sentence("at most 512 calls after it has been made (questions)");
        RationalSession s = new RationalSession();
        for (int i = 0; i < 40; i++) {
            s.types(Typist.pack("(x-2)^-9"));
            Check.due("enter", s.enter(), i + 1);
        }
        String want = "(1)/(x^9+9989*x^8+144*x^7+9335*x^6+2016*x^5+5975*x^4+5376*x^3+5399*x^2+2304*x+9495)";
        for (int i = 80; i < CALLS; i++) {
            int label = 1 + i % 40;
            int place = i % want.length();
            Check.due("text(" + label + ", " + place + ")", s.text(label, place), want.charAt(place));
        }
    }

    private static void anyArgument() {
        Check.sentence("The public face", "each call, with any argument in any state, answers and changes nothing that it should not");
        for (int number : NUMBERS) {
            for (int other : NUMBERS) {
                ask(new RationalSession(), number, other);
                ask(Sessions.used(), number, other);
            }
            ask(Sessions.full(), number, number);
            RationalSession again = Sessions.full();
            again.reset();
            ask(again, number, number);
        }
    }

    private static void ask(RationalSession s, int number, int other) {
        String before = Snapshot.of(s);
        int labels = s.labels();
        boolean there = number >= 1 && number <= labels;
        Check.due("degree", s.degree(number, true) >= 0 ? 1 : 0, there ? 1 : 0);
        Check.due("coefficient", s.coefficient(number, true, other) >= 0 ? 1 : 0, there && other >= 0 && other <= 12 ? 1 : 0);
        Check.due("shape", s.shape(number) >= 1 ? 1 : 0, there ? 1 : 0);
        Check.due("bound", s.bound(number) >= 0 ? 1 : 0, number >= 0 && number <= 2 ? 1 : 0);
        Check.due("value", s.value(number, other) == RationalSession.REFUSED ? 0 : 1, there ? 1 : 0);
        Check.due("text", s.text(number, other) >= 0 ? 1 : 0, there && other >= 0 ? 1 : 0);
        Check.due("line", s.line(number) >= 0 ? 1 : 0, number < s.line(-1) ? 1 : 0);
        Check.due("after the questions", Snapshot.of(s), before);
        int length = s.line(-1);
        Check.due("type", s.type(number), mayBeTyped(number) ? length + 1 : RationalSession.REFUSED);
        length = s.line(-1);
        boolean two = mayBeTyped(number) && mayBeTyped(other);
        Check.due("types", s.types((long) number << 32 | other & 0xFFFFFFFFL) == length + 2 ? 1 : 0, two ? 1 : 0);
    }

    private static boolean mayBeTyped(int c) {
        return c > 0 && c < 128 && Sessions.CHARACTERS.indexOf(c) >= 0;
    }
}
