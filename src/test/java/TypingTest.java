/** Promises 1 to 4 and 15: a new object and its line, sentence by sentence. */
public final class TypingTest {
    private static final int REFUSED = RationalSession.REFUSED;
    private static final int FULL = RationalSession.FULL;
    private static final int LEAST = Sessions.LEAST;
    private static final int MOST = Sessions.MOST;
    private static final String CHARACTERS = Sessions.CHARACTERS;
    private static final String FULL_LINE = Sessions.FULL_LINE;

    public static void main(String[] args) {
        newObject();
        typeAdds();
        typeRefuses();
        typeOnFullLine();
        typeChangesNothing();
        typeAnswersLength();
        typesHighestFirst();
        typesLeavesZerosOut();
        typesStopsAtRefused();
        typesStopsAtFull();
        typesAnswersLength();
        backTakesLast();
        backOnEmptyLine();
        backAnswersLength();
        lineLength();
        lineCharacters();
        Check.end();
    }

    private static void sentence(int promise, String words) {
        Check.sentence("Promise " + promise, words);
    }

    private static void newObject() {
        sentence(1, "An empty line, no labels");
        Sessions.checkEmpty("new", new RationalSession());
        RationalSession other = Sessions.used();
        Sessions.checkEmpty("new, beside another", new RationalSession());
        Check.due("the other one's labels", other.labels(), 3);
        Check.due("the other one's line", Typist.line(other), "x^2");
    }

    private static void typeAdds() {
        sentence(2, "Adds a character (its code) to the line");
        for (char c : CHARACTERS.toCharArray()) {
            RationalSession s = new RationalSession();
            Check.due("type(" + c + ")", s.type(c), 1);
            Check.due("line(0)", s.line(0), c);
            Check.due("type(x)", s.type('x'), 2);
            Check.due("behind it", Typist.line(s), c + "x");
        }
    }

    private static void typeRefuses() {
        sentence(2, "Not one of the line's characters: REFUSED");
        RationalSession s = new RationalSession();
        for (int c = -300; c < 700; c++) {
            if (c <= 0 || c > 127 || CHARACTERS.indexOf(c) < 0) {
                Check.due("type(" + c + ")", s.type(c), REFUSED);
            }
        }
        for (int c : new int[] {65536 + 'x', 256 + 'x', 'x' - 256, 'x' - 65536, 'x' | LEAST, LEAST, MOST, 'X', 'A', ' ', 0}) {
            Check.due("type(" + c + ")", s.type(c), REFUSED);
        }
    }

    private static void typeOnFullLine() {
        sentence(2, "else, the line has 32: FULL");
        RationalSession s = new RationalSession();
        Typist.type(s, FULL_LINE.substring(0, 31));
        Check.due("a 32nd", s.type('x'), 32);
        for (char c : CHARACTERS.toCharArray()) {
            Check.due("a 33rd: " + c, s.type(c), FULL);
        }
        for (int c : new int[] {'y', ' ', 0, -1, 65536 + 'x', LEAST, MOST}) {
            Check.due("REFUSED comes first: " + c, s.type(c), REFUSED);
        }
        Check.due("room again", s.back(), 31);
        Check.due("a 32nd again", s.type('1'), 32);
    }

    private static void typeChangesNothing() {
        sentence(2, "both change nothing");
        RationalSession s = Sessions.used();
        String before = Snapshot.of(s);
        s.type('y');
        s.type(0);
        s.type(MOST);
        Check.due("after REFUSED", Snapshot.of(s), before);
        Typist.type(s, FULL_LINE.substring(3));
        before = Snapshot.of(s);
        s.type('x');
        Check.due("after FULL", Snapshot.of(s), before);
        s.type('y');
        Check.due("after REFUSED on a full line", Snapshot.of(s), before);
    }

    private static void typeAnswersLength() {
        sentence(2, "Answers the line's length");
        RationalSession s = new RationalSession();
        for (int i = 0; i < 32; i++) {
            Check.due("character " + i, s.type(FULL_LINE.charAt(i)), i + 1);
        }
        Check.due("all are there", Typist.line(s), FULL_LINE);
    }

    private static void typesHighestFirst() {
        sentence(3, "The eight bytes of the number, highest first");
        RationalSession s = new RationalSession();
        Check.due("eight", s.types(Typist.pack("s(x,1/x)")), 8);
        Check.due("eight stand", Typist.line(s), "s(x,1/x)");
        Check.due("enter()", s.enter(), 1);
        Check.due("its text", Typist.text(s, 1), "(1)/(x)");
    }

    private static void typesLeavesZerosOut() {
        sentence(3, "those that are 0 left out");
        RationalSession s = new RationalSession();
        Check.due("types(0)", s.types(0), 0);
        Check.due("between", s.types((long) '+' << 56 | (long) '7' << 24 | 'x'), 3);
        Check.due("the line", Typist.line(s), "+7x");
        Check.due("types(0) later", s.types(0), 3);
        for (int place = 0; place < 8; place++) {
            s.reset();
            Check.due("byte " + place, s.types((long) 'x' << 8 * place), 1);
            Check.due("byte " + place, Typist.line(s), "x");
        }
    }

    private static void typesStopsAtRefused() {
        sentence(3, "at the first that is REFUSED this stops, those before it stay, and that answer is given");
        RationalSession s = new RationalSession();
        Check.due("the third is wrong", s.types(Typist.pack("1+y+2")), REFUSED);
        Check.due("the first two stay", Typist.line(s), "1+");
        Check.due("the first is wrong", s.types(Typist.pack("yxxxxxxx")), REFUSED);
        Check.due("none stays", Typist.line(s), "1+");
        Check.due("the last is wrong", s.types(Typist.pack("1234567y")), REFUSED);
        Check.due("seven stay", Typist.line(s), "1+1234567");
        Check.due("all bits", s.types(-1L), REFUSED);
        Check.due("the least number", s.types(Long.MIN_VALUE), REFUSED);
        Check.due("the greatest number", s.types(Long.MAX_VALUE), REFUSED);
        Check.due("a high byte behind", s.types((long) 'a' << 56 | 0xF8L << 48 | 'b'), REFUSED);
        Check.due("it stopped", Typist.line(s), "1+1234567a");
    }

    private static void typesStopsAtFull() {
        sentence(3, "at the first that is FULL this stops, those before it stay, and that answer is given");
        RationalSession s = new RationalSession();
        Typist.type(s, FULL_LINE.substring(0, 29));
        Check.due("over the end", s.types(Typist.pack("12345")), FULL);
        Check.due("the first three stay", Typist.line(s), FULL_LINE.substring(0, 29) + "123");
        String before = Snapshot.of(s);
        Check.due("full", s.types(Typist.pack("x")), FULL);
        Check.due("wrong on a full line", s.types(Typist.pack("yx")), REFUSED);
        Check.due("full before a wrong one", s.types(Typist.pack("xy")), FULL);
        Check.due("a full line stays", Snapshot.of(s), before);
        s.back();
        Check.due("one fits, one is wrong", s.types(Typist.pack("4y")), REFUSED);
        s.back();
        Check.due("one fits, one does not", s.types(Typist.pack("56")), FULL);
        Check.due("the one that fits", s.line(31), '5');
    }

    private static void typesAnswersLength() {
        sentence(3, "Answers the line's length");
        RationalSession s = new RationalSession();
        for (int length = 8; length <= 32; length += 8) {
            Check.due("types", s.types(Typist.pack(FULL_LINE.substring(length - 8, length))), length);
        }
        Check.due("all are there", Typist.line(s), FULL_LINE);
        Check.due("types(0) on a full line", s.types(0), 32);
    }

    private static void backTakesLast() {
        sentence(4, "Takes the last character away");
        RationalSession s = Sessions.used();
        String before = Snapshot.withoutLine(s);
        s.back();
        Check.due("the last went", Typist.line(s), "x^");
        Check.due("line(2)", s.line(2), REFUSED);
        Check.due("nothing else changes", Snapshot.withoutLine(s), before);
        s.type('3');
        Check.due("another in its place", Typist.line(s), "x^3");
        Check.due("it is worked out without the one taken", s.enter(), 4);
        Check.due("its text", Typist.text(s, 4), "x^3");
    }

    private static void backOnEmptyLine() {
        sentence(4, "The line is empty: REFUSED");
        RationalSession s = Sessions.used();
        s.enter();
        String before = Snapshot.of(s);
        Check.due("after enter()", s.back(), REFUSED);
        Check.due("again", s.back(), REFUSED);
        Check.due("nothing changes", Snapshot.of(s), before);
        Check.due("the next character is the first", s.type('x'), 1);
        Check.due("back()", s.back(), 0);
        Check.due("empty again", s.back(), REFUSED);
        Check.due("on a new object", new RationalSession().back(), REFUSED);
    }

    private static void backAnswersLength() {
        sentence(4, "Answers the length left");
        RationalSession s = new RationalSession();
        Typist.type(s, FULL_LINE);
        for (int left = 31; left >= 0; left--) {
            Check.due("back()", s.back(), left);
            Check.due("length", s.line(-1), left);
        }
    }

    private static void lineLength() {
        sentence(15, "The length of the line, for i below 0");
        RationalSession s = new RationalSession();
        for (int length = 0; length <= 32; length++) {
            for (int i : new int[] {-1, -2, -32, -33, LEAST}) {
                Check.due("line(" + i + ")", s.line(i), length);
            }
            s.type('x');
        }
        Check.due("after a 33rd", s.line(-1), 32);
    }

    private static void lineCharacters() {
        sentence(15, "else the code of the line's character i, or REFUSED if it has no such");
        RationalSession s = new RationalSession();
        Check.due("line(0) of an empty line", s.line(0), REFUSED);
        Typist.type(s, FULL_LINE);
        for (int i = 0; i < 32; i++) {
            Check.due("line(" + i + ")", s.line(i), FULL_LINE.charAt(i));
        }
        for (int i : new int[] {32, 33, 256, 65536, MOST}) {
            Check.due("line(" + i + ")", s.line(i), REFUSED);
        }
        s.back();
        Check.due("line(30) after back()", s.line(30), 'x');
        Check.due("line(31) after back()", s.line(31), REFUSED);
        s.enter();
        Check.due("line(0) after enter()", s.line(0), REFUSED);
    }
}
