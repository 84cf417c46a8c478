/**
 * A session of algebra in one letter: lines are typed, worked out as rational functions modulo 10007,
 * and kept under labels in a form in which equal functions look the same.
 *
 * All rows are made in the constructor and used again, so that no later call makes an object.
 */
public final class RationalSession {
    public static final int REFUSED = -1;
    public static final int FULL = -2;
    public static final int SYNTAX = -3;
    public static final int UNBOUND = -4;
    public static final int DIVIDE = -5;
    public static final int TOO_BIG = -6;
    public static final int POLE = -7;

    private static final int PRIME = 10007;
    private static final int MINUS_ONE = PRIME - 1;
    private static final int HIGHEST_POWER = 12;
    private static final int LINE_ROOM = 32;
    private static final int MOST_LABELS = 40;
    private static final int MOST_OPEN = 8;
    private static final int NAME_COUNT = 3;

    private static final int NO_TROUBLE = 0;
    private static final int NO_PLACE = -1;
    private static final int NO_NAME = -1;

    private final Line typed;
    private final Program program;
    private final Reader reader;
    private final Worker worker;
    private final Shelf shelf;
    private final TextSeeker seeker;
    private int lastBadPlace;

    public RationalSession() {
        typed = new Line();
        program = new Program();
        reader = new Reader(typed, program);
        worker = new Worker();
        shelf = new Shelf();
        seeker = new TextSeeker();
        lastBadPlace = NO_PLACE;
    }

    public int type(int c) {
        if (!Line.mayHold(c)) {
            return REFUSED;
        }
        return typed.add((char) c) ? typed.length : FULL;
    }

    public int types(long eight) {
        for (int shift = 56; shift >= 0; shift -= 8) {
            int c = (int) (eight >>> shift) & 255;
            if (c != 0) {
                int answer = type(c);
                if (answer < 0) {
                    return answer;
                }
            }
        }
        return typed.length;
    }

    public int back() {
        return typed.dropLast() ? typed.length : REFUSED;
    }

    public int enter() {
        // Reading changes nothing that can be seen, so it may come before the test for FULL.
        int bad = reader.read();
        typed.clear();
        if (shelf.isFull()) {
            return FULL;
        }
        if (bad != NO_PLACE) {
            lastBadPlace = bad;
            return SYNTAX;
        }
        int trouble = worker.run(program, shelf);
        if (trouble != NO_TROUBLE) {
            return trouble;
        }
        int label = shelf.keep(worker.result());
        shelf.bind(program.target, label);
        return label;
    }

    public int badPlace() {
        return lastBadPlace;
    }

    public int degree(int label, boolean denominator) {
        Form form = shelf.find(label);
        return form == null ? REFUSED : form.part(denominator).top;
    }

    public int coefficient(int label, boolean denominator, int i) {
        Form form = shelf.find(label);
        if (form == null || i < 0 || i > HIGHEST_POWER) {
            return REFUSED;
        }
        return form.part(denominator).get(i);
    }

    public int shape(int label) {
        return shelf.find(label) == null ? REFUSED : shelf.shapeOf(label);
    }

    public int shapes() {
        return shelf.shapeCount;
    }

    public int labels() {
        return shelf.count;
    }

    public int bound(int name) {
        if (name < 0 || name >= NAME_COUNT) {
            return REFUSED;
        }
        return shelf.shapeOf(shelf.labelBoundTo(name));
    }

    public int value(int label, int at) {
        Form form = shelf.find(label);
        if (form == null) {
            return REFUSED;
        }
        int point = Math.floorMod(at, PRIME);
        int below = form.under.valueAt(point);
        if (below == 0) {
            return POLE;
        }
        return form.over.valueAt(point) * inverse(below) % PRIME;
    }

    public int text(int label, int i) {
        Form form = shelf.find(label);
        if (form == null || i < 0) {
            return REFUSED;
        }
        return seeker.seek(form, i);
    }

    public int line(int i) {
        if (i < 0) {
            return typed.length;
        }
        return i < typed.length ? typed.at(i) : REFUSED;
    }

    public void reset() {
        typed.clear();
        shelf.clear();
        lastBadPlace = NO_PLACE;
    }

    /** By Fermat's theorem; 0, which has no inverse, gives 0. */
    private static int inverse(int number) {
        int result = 1;
        int square = number;
        for (int rest = PRIME - 2; rest > 0; rest /= 2) {
            if (rest % 2 == 1) {
                result = result * square % PRIME;
            }
            square = square * square % PRIME;
        }
        return result;
    }

    /** The characters typed since the last enter. */
    private static final class Line {
        private static final String CHARACTERS = "0123456789xabcds%+-*/^(),:";

        private final char[] row = new char[LINE_ROOM];
        private int length = 0;

        static boolean mayHold(int c) {
            return c > 0 && c < 128 && CHARACTERS.indexOf((char) c) >= 0;
        }

        boolean add(char c) {
            if (length >= LINE_ROOM) {
                return false;
            }
            row[length] = c;
            length++;
            return true;
        }

        boolean dropLast() {
            if (length == 0) {
                return false;
            }
            length--;
            return true;
        }

        void clear() {
            length = 0;
        }

        /** 0 behind the end: no character of a line is 0, so a reader that looks there finds no match. */
        char at(int i) {
            return i >= 0 && i < length ? row[i] : 0;
        }
    }

    /** A good line as steps in the order of working out: each loads a form or works on the last ones. */
    private static final class Program {
        static final int LITERAL = 1;
        static final int LETTER = 2;
        static final int NAME = 3;
        static final int LABEL = 4;
        static final int POWER = 5;
        static final int NEGATE = 6;
        static final int DERIVE = 7;
        static final int ADD = 8;
        static final int SUBTRACT = 9;
        static final int MULTIPLY = 10;
        static final int QUOTIENT = 11;
        static final int COMPOSE = 12;

        // Every step stems from a character of its own, so there are never more steps than characters.
        private final int[] kinds = new int[LINE_ROOM];
        private final int[] details = new int[LINE_ROOM];
        private int size = 0;
        private int target = NO_NAME;

        void clear() {
            size = 0;
            target = NO_NAME;
        }

        void add(int kind, int detail) {
            if (size < LINE_ROOM) {
                kinds[size] = kind;
                details[size] = detail;
                size++;
            }
        }

        static boolean loads(int kind) {
            return kind <= LABEL;
        }

        static boolean hasTwoSides(int kind) {
            return kind >= ADD;
        }
    }

    /**
     * Reads a line from the left into a program. It stops at the first character with which no good line
     * goes on, so that the place where it stands is the BAD PLACE.
     */
    private static final class Reader {
        private static final int NOTHING = 0;
        private static final char FIRST_OF_S = 's';
        private static final char SECOND_OF_S = ',';

        // One entry for each open sum: what opened it, and the operations that wait for their right side.
        // Operations of one rank work from the left, so at most one of each rank waits in a sum.
        private final char[] openings = new char[MOST_OPEN + 1];
        private final int[] waitingInSum = new int[MOST_OPEN + 1];
        private final int[] waitingInTerm = new int[MOST_OPEN + 1];
        private int open;

        private final Line line;
        private final Program program;
        private int place;
        private boolean stuck;
        private boolean wantsAtom;
        private boolean maySign;
        private boolean mayPower;

        Reader(Line line, Program program) {
            this.line = line;
            this.program = program;
        }

        /** Answers the BAD PLACE, or NO_PLACE for a good line. */
        int read() {
            program.clear();
            place = 0;
            stuck = false;
            open = 0;
            startSum();
            readTarget();
            for (int step = 0; step < LINE_ROOM && place < line.length && !stuck; step++) {
                if (wantsAtom) {
                    readBeforeAtom(line.at(place));
                } else {
                    readAfterAtom(line.at(place));
                }
            }
            if (stuck || wantsAtom || open > 0) {
                return place;
            }
            finishTerm();
            return NO_PLACE;
        }

        private void readTarget() {
            if (isName(line.at(0)) && line.at(1) == ':') {
                program.target = line.at(0) - 'a';
                place = 2;
            }
        }

        private void readBeforeAtom(char c) {
            if (maySign && (c == '+' || c == '-')) {
                waitingInSum[open] = c == '-' ? Program.NEGATE : NOTHING;
                maySign = false;
                place++;
            } else if (isDigit(c)) {
                endAtom(Program.LITERAL, readNumber(5, 99999));
            } else if (c == '%') {
                place++;
                endAtom(Program.LABEL, readNumber(2, 99));
            } else if (c == 'x') {
                place++;
                endAtom(Program.LETTER, 0);
            } else if (isName(c)) {
                place++;
                endAtom(Program.NAME, c - 'a');
            } else if (c == '(' || c == 'd' || c == 's') {
                readOpening(c);
            } else {
                stuck = true;
            }
        }

        private void readAfterAtom(char c) {
            if (c == '^' && mayPower) {
                place++;
                readExponent();
            } else if (c == '*' || c == '/') {
                finishPower();
                waitingInTerm[open] = c == '*' ? Program.MULTIPLY : Program.QUOTIENT;
                startAtom();
            } else if (c == '+' || c == '-') {
                finishTerm();
                waitingInSum[open] = c == '+' ? Program.ADD : Program.SUBTRACT;
                startAtom();
            } else if (c == ',' && open > 0 && openings[open] == FIRST_OF_S) {
                place++;
                finishTerm();
                openings[open] = SECOND_OF_S;
                startSum();
            } else if (c == ')' && open > 0 && openings[open] != FIRST_OF_S) {
                place++;
                closeOpening();
            } else {
                stuck = true;
            }
        }

        private void startSum() {
            waitingInSum[open] = NOTHING;
            waitingInTerm[open] = NOTHING;
            wantsAtom = true;
            maySign = true;
        }

        private void startAtom() {
            place++;
            wantsAtom = true;
            maySign = false;
        }

        private void endAtom(int kind, int detail) {
            program.add(kind, detail);
            wantsAtom = false;
            mayPower = true;
        }

        private void readOpening(char c) {
            if (open >= MOST_OPEN) {
                stuck = true;
                return;
            }
            if (c != '(') {
                place++;
            }
            if (line.at(place) != '(') {
                stuck = true;
                return;
            }
            place++;
            open++;
            openings[open] = c;
            startSum();
        }

        private void closeOpening() {
            finishTerm();
            char opening = openings[open];
            open--;
            if (opening == 'd') {
                program.add(Program.DERIVE, 0);
            } else if (opening == SECOND_OF_S) {
                program.add(Program.COMPOSE, 0);
            }
            wantsAtom = false;
            mayPower = true;
        }

        private void readExponent() {
            boolean negative = line.at(place) == '-';
            if (negative) {
                place++;
            }
            int worth = readNumber(2, HIGHEST_POWER);
            program.add(Program.POWER, negative ? -worth : worth);
            mayPower = false;
        }

        /** A digit too many stays unread: what follows a number takes no digit and gets stuck on it. */
        private int readNumber(int mostDigits, int most) {
            int worth = 0;
            int count = 0;
            while (count < mostDigits && isDigit(line.at(place))) {
                int longer = worth * 10 + (line.at(place) - '0');
                if (longer > most) {
                    break;
                }
                worth = longer;
                count++;
                place++;
            }
            if (count == 0) {
                stuck = true;
            }
            return worth;
        }

        private void finishPower() {
            if (waitingInTerm[open] != NOTHING) {
                program.add(waitingInTerm[open], 0);
                waitingInTerm[open] = NOTHING;
            }
        }

        private void finishTerm() {
            finishPower();
            if (waitingInSum[open] != NOTHING) {
                program.add(waitingInSum[open], 0);
                waitingInSum[open] = NOTHING;
            }
        }

        private static boolean isDigit(char c) {
            return c >= '0' && c <= '9';
        }

        private static boolean isName(char c) {
            return c >= 'a' && c < 'a' + NAME_COUNT;
        }
    }

    /** A polynomial modulo PRIME. What the row holds above the top means nothing. */
    private static final class Polynomial {
        private final int[] row;
        /** The degree; -1 for the zero polynomial. */
        private int top = -1;

        Polynomial(int highest) {
            row = new int[highest + 1];
        }

        boolean isZero() {
            return top < 0;
        }

        int get(int i) {
            return i >= 0 && i <= top && i < row.length ? row[i] : 0;
        }

        int lead() {
            return get(top);
        }

        void setConstant(int number) {
            row[0] = number;
            top = number == 0 ? -1 : 0;
        }

        void setLetter() {
            row[0] = 0;
            row[1] = 1;
            top = 1;
        }

        void copy(Polynomial other) {
            top = Math.min(other.top, row.length - 1);
            for (int i = 0; i <= top; i++) {
                row[i] = other.row[i];
            }
        }

        boolean isSame(Polynomial other) {
            if (top != other.top) {
                return false;
            }
            for (int i = 0; i <= top; i++) {
                if (row[i] != other.get(i)) {
                    return false;
                }
            }
            return true;
        }

        /** Neither side may be this polynomial, whose row is written while theirs are read. */
        void setProduct(Polynomial left, Polynomial right) {
            top = -1;
            if (left.isZero() || right.isZero()) {
                return;
            }
            // The highest coefficients' product is not 0, the modulus being prime.
            top = Math.min(left.top + right.top, row.length - 1);
            for (int i = 0; i <= top; i++) {
                row[i] = 0;
            }
            for (int i = 0; i <= left.top; i++) {
                int factor = left.row[i];
                for (int j = 0; factor != 0 && j <= right.top && i + j <= top; j++) {
                    row[i + j] = (row[i + j] + factor * right.row[j]) % PRIME;
                }
            }
        }

        void setDerivative(Polynomial other) {
            int highest = Math.min(other.top - 1, row.length - 1);
            for (int i = 0; i <= highest; i++) {
                row[i] = other.get(i + 1) * (i + 1) % PRIME;
            }
            trimFrom(highest);
        }

        void scale(int factor) {
            for (int i = 0; i <= top; i++) {
                row[i] = row[i] * factor % PRIME;
            }
            trimFrom(top);
        }

        void addMultiple(Polynomial other, int factor) {
            int highest = Math.min(Math.max(top, other.top), row.length - 1);
            for (int i = 0; i <= highest; i++) {
                row[i] = (get(i) + other.get(i) * factor) % PRIME;
            }
            trimFrom(highest);
        }

        /** The divisor's highest coefficient must be 1. The remainder stays here. */
        void divideBy(Polynomial divisor, Polynomial quotient) {
            int low = divisor.top;
            if (low < 0 || top < low) {
                quotient.top = -1;
                return;
            }
            quotient.top = Math.min(top - low, quotient.row.length - 1);
            for (int i = quotient.top; i >= 0; i--) {
                int times = row[i + low];
                quotient.row[i] = times;
                for (int j = 0; times != 0 && j <= low; j++) {
                    row[i + j] = (row[i + j] + (PRIME - times) * divisor.row[j]) % PRIME;
                }
            }
            trimFrom(low - 1);
        }

        int valueAt(int point) {
            int sum = 0;
            for (int i = top; i >= 0; i--) {
                sum = (sum * point + row[i]) % PRIME;
            }
            return sum;
        }

        private void trimFrom(int highest) {
            top = -1;
            for (int i = highest; i >= 0 && top < 0; i--) {
                if (row[i] != 0) {
                    top = i;
                }
            }
        }
    }

    /** A FORM: no common divisor, the denominator's highest coefficient 1, never BIG. */
    private static final class Form {
        private final Polynomial over = new Polynomial(HIGHEST_POWER);
        private final Polynomial under = new Polynomial(HIGHEST_POWER);

        Polynomial part(boolean denominator) {
            return denominator ? under : over;
        }

        boolean isZero() {
            return over.isZero();
        }

        /** The greater of the two degrees. */
        int height() {
            return Math.max(over.top, under.top);
        }

        void setConstant(int number) {
            over.setConstant(number);
            under.setConstant(1);
        }

        void setLetter() {
            over.setLetter();
            under.setConstant(1);
        }

        void copy(Form other) {
            over.copy(other.over);
            under.copy(other.under);
        }

        boolean isSame(Form other) {
            return over.isSame(other.over) && under.isSame(other.under);
        }
    }

    /**
     * The operations on forms. Each leaves a quotient that need not be a FORM yet in over and under, or
     * answers a trouble; settle makes the FORM of what is left.
     */
    private static final class Workshop {
        // A product of two coefficient rows that are not BIG reaches twice the highest power.
        private static final int ROOM = 2 * HIGHEST_POWER;

        private final Polynomial over = new Polynomial(ROOM);
        private final Polynomial under = new Polynomial(ROOM);
        private final Polynomial side = new Polynomial(ROOM);
        private final Polynomial help = new Polynomial(ROOM);
        private final Polynomial first = new Polynomial(ROOM);
        private final Polynomial second = new Polynomial(ROOM);
        private final Polynomial quotient = new Polynomial(ROOM);

        void add(Form left, Form right, int factor) {
            over.setProduct(left.over, right.under);
            side.setProduct(right.over, left.under);
            over.addMultiple(side, factor);
            under.setProduct(left.under, right.under);
        }

        void multiply(Form left, Form right) {
            over.setProduct(left.over, right.over);
            under.setProduct(left.under, right.under);
        }

        int divide(Form left, Form right) {
            if (right.isZero()) {
                return DIVIDE;
            }
            over.setProduct(left.over, right.under);
            under.setProduct(left.under, right.over);
            return NO_TROUBLE;
        }

        void negate(Form form) {
            over.copy(form.over);
            over.scale(MINUS_ONE);
            under.copy(form.under);
        }

        void derive(Form form) {
            side.setDerivative(form.over);
            over.setProduct(side, form.under);
            side.setDerivative(form.under);
            help.setProduct(form.over, side);
            over.addMultiple(help, MINUS_ONE);
            under.setProduct(form.under, form.under);
        }

        int power(Form form, int exponent) {
            int times = Math.abs(exponent);
            if (exponent < 0 && form.isZero()) {
                return DIVIDE;
            }
            // Powers of polynomials without a common divisor have none either: nothing would cancel.
            if (times * form.height() > HIGHEST_POWER) {
                return TOO_BIG;
            }
            raise(form.over, times, exponent < 0 ? under : over);
            raise(form.under, times, exponent < 0 ? over : under);
            return NO_TROUBLE;
        }

        private void raise(Polynomial base, int times, Polynomial result) {
            result.setConstant(1);
            for (int i = 0; i < times; i++) {
                side.setProduct(result, base);
                result.copy(side);
            }
        }

        int compose(Form outer, Form inner) {
            int height = outer.height();
            // Nothing cancels when one form is put into another, so their heights multiply exactly.
            if (height * inner.height() > HIGHEST_POWER) {
                return TOO_BIG;
            }
            putInto(outer.over, height, inner, over);
            putInto(outer.under, height, inner, under);
            return under.isZero() ? DIVIDE : NO_TROUBLE;
        }

        /** The polynomial at inner, times inner's denominator to the height, which makes it a polynomial. */
        private void putInto(Polynomial outer, int height, Form inner, Polynomial result) {
            result.setConstant(outer.get(height));
            help.setConstant(1);
            for (int i = height - 1; i >= 0; i--) {
                side.setProduct(result, inner.over);
                result.copy(side);
                side.setProduct(help, inner.under);
                help.copy(side);
                result.addMultiple(help, outer.get(i));
            }
        }

        int settle(Form form) {
            if (over.isZero()) {
                form.setConstant(0);
                return NO_TROUBLE;
            }
            Polynomial common = commonDivisor();
            if (common.top > 0) {
                over.divideBy(common, quotient);
                over.copy(quotient);
                under.divideBy(common, quotient);
                under.copy(quotient);
            }
            if (over.top > HIGHEST_POWER || under.top > HIGHEST_POWER) {
                return TOO_BIG;
            }
            int factor = inverse(under.lead());
            over.scale(factor);
            under.scale(factor);
            form.over.copy(over);
            form.under.copy(under);
            return NO_TROUBLE;
        }

        /** Euclid's way; if the answer's degree is above 0, its highest coefficient is 1. */
        private Polynomial commonDivisor() {
            Polynomial left = first;
            Polynomial right = second;
            left.copy(over);
            right.copy(under);
            for (int step = 0; step <= ROOM && right.top > 0; step++) {
                right.scale(inverse(right.lead()));
                left.divideBy(right, quotient);
                Polynomial rest = left;
                left = right;
                right = rest;
            }
            return right.isZero() ? left : right;
        }
    }

    /** Runs programs on a stack of forms. */
    private static final class Worker {
        // A sign stands between any two operands, so a line has at most one for every two characters.
        private static final int ROOM = LINE_ROOM / 2;

        private final Workshop workshop = new Workshop();
        private final Form[] stack = new Form[ROOM];
        private int depth = 0;

        Worker() {
            for (int i = 0; i < ROOM; i++) {
                stack[i] = new Form();
            }
        }

        /** Answers the first trouble, or NO_TROUBLE. */
        int run(Program program, Shelf shelf) {
            int trouble = NO_TROUBLE;
            depth = 0;
            for (int i = 0; i < program.size && trouble == NO_TROUBLE; i++) {
                int kind = program.kinds[i];
                if (Program.loads(kind)) {
                    trouble = load(kind, program.details[i], shelf);
                } else {
                    trouble = operate(kind, program.details[i]);
                }
            }
            return trouble;
        }

        Form result() {
            return stack[0];
        }

        private int load(int kind, int detail, Shelf shelf) {
            if (depth >= ROOM) {
                return TOO_BIG;
            }
            Form place = stack[depth];
            depth++;
            if (kind == Program.LITERAL) {
                place.setConstant(detail % PRIME);
            } else if (kind == Program.LETTER) {
                place.setLetter();
            } else {
                Form kept = shelf.find(kind == Program.NAME ? shelf.labelBoundTo(detail) : detail);
                if (kept == null) {
                    return UNBOUND;
                }
                place.copy(kept);
            }
            return NO_TROUBLE;
        }

        private int operate(int kind, int detail) {
            int sides = Program.hasTwoSides(kind) ? 2 : 1;
            if (depth < sides) {
                return TOO_BIG;
            }
            Form right = stack[depth - 1];
            Form left = stack[depth - sides];
            depth = depth - sides + 1;
            int trouble = NO_TROUBLE;
            switch (kind) {
                case Program.ADD:
                    workshop.add(left, right, 1);
                    break;
                case Program.SUBTRACT:
                    workshop.add(left, right, MINUS_ONE);
                    break;
                case Program.MULTIPLY:
                    workshop.multiply(left, right);
                    break;
                case Program.QUOTIENT:
                    trouble = workshop.divide(left, right);
                    break;
                case Program.COMPOSE:
                    trouble = workshop.compose(left, right);
                    break;
                case Program.POWER:
                    trouble = workshop.power(left, detail);
                    break;
                case Program.DERIVE:
                    workshop.derive(left);
                    break;
                default:
                    workshop.negate(left);
                    break;
            }
            return trouble == NO_TROUBLE ? workshop.settle(left) : trouble;
        }
    }

    /** The labels' forms with their shape numbers, and the names. */
    private static final class Shelf {
        private final Form[] forms = new Form[MOST_LABELS];
        private final int[] shapeNumbers = new int[MOST_LABELS];
        /** A label's form never changes, so a name bound to a FORM is kept as a label; 0 if not bound. */
        private final int[] labelOfName = new int[NAME_COUNT];
        private int count = 0;
        private int shapeCount = 0;

        Shelf() {
            for (int i = 0; i < MOST_LABELS; i++) {
                forms[i] = new Form();
            }
        }

        void clear() {
            count = 0;
            shapeCount = 0;
            for (int i = 0; i < NAME_COUNT; i++) {
                labelOfName[i] = 0;
            }
        }

        boolean isFull() {
            return count >= MOST_LABELS;
        }

        /** Null if there is no such label. */
        Form find(int label) {
            return label >= 1 && label <= count ? forms[label - 1] : null;
        }

        /** 0 if there is no such label. */
        int shapeOf(int label) {
            return label >= 1 && label <= count ? shapeNumbers[label - 1] : 0;
        }

        int labelBoundTo(int name) {
            return name >= 0 && name < NAME_COUNT ? labelOfName[name] : 0;
        }

        void bind(int name, int label) {
            if (name >= 0 && name < NAME_COUNT) {
                labelOfName[name] = label;
            }
        }

        /** Answers the new label. */
        int keep(Form form) {
            if (isFull()) {
                return FULL;
            }
            forms[count].copy(form);
            shapeNumbers[count] = shapeNumberFor(form);
            count++;
            return count;
        }

        private int shapeNumberFor(Form form) {
            for (int i = 0; i < count; i++) {
                if (forms[i].isSame(form)) {
                    return shapeNumbers[i];
                }
            }
            shapeCount++;
            return shapeCount;
        }
    }

    /** Spells a form's text out and remembers the one character that is asked for, so no text is made. */
    private static final class TextSeeker {
        private int wanted;
        private int written;
        private int found;

        /** The character's code; 0 behind the text. */
        int seek(Form form, int place) {
            wanted = place;
            written = 0;
            found = 0;
            if (form.under.top == 0) {
                spell(form.over);
            } else {
                put('(');
                spell(form.over);
                put(')');
                put('/');
                put('(');
                spell(form.under);
                put(')');
            }
            return found;
        }

        private void spell(Polynomial polynomial) {
            if (polynomial.isZero()) {
                put('0');
            }
            for (int power = polynomial.top; power >= 0; power--) {
                int factor = polynomial.get(power);
                if (factor != 0) {
                    if (power < polynomial.top) {
                        put('+');
                    }
                    spellPart(factor, power);
                }
            }
        }

        private void spellPart(int factor, int power) {
            if (power == 0) {
                spellNumber(factor);
                return;
            }
            if (factor != 1) {
                spellNumber(factor);
                put('*');
            }
            put('x');
            if (power > 1) {
                put('^');
                spellNumber(power);
            }
        }

        private void spellNumber(int number) {
            for (int unit = 10000; unit > 0; unit /= 10) {
                if (number >= unit) {
                    put((char) ('0' + number / unit % 10));
                }
            }
        }

        private void put(char c) {
            if (written == wanted) {
                found = c;
            }
            written++;
        }
    }
}
