import java.math.BigInteger;
import java.util.ArrayList;
import java.util.List;

/**
 * A plain second writing of the session: good lines are worked out while they are read, by recursion, on
 * fractions of any degree. It is slow and makes many objects; it is here to be compared with.
 */
final class Model {
    static final int P = 10007;

    /** Ends the working out; code is the trouble. */
    static final class Trouble extends RuntimeException {
        final int code;

        Trouble(int code) {
            super(null, null, false, false);
            this.code = code;
        }
    }

    /** Always reduced, of any degree. Rows hold the lowest power first and no zeros at the high end. */
    static final class Fraction {
        final int[] over;
        final int[] under;

        Fraction(int[] over, int[] under) {
            int[] common = commonDivisor(over, under);
            int[] top = divide(over, common)[0];
            int[] bottom = divide(under, common)[0];
            int factor = inverse(bottom[bottom.length - 1]);
            this.over = product(top, new int[] {factor});
            this.under = product(bottom, new int[] {factor});
        }

        boolean isZero() {
            return over.length == 0;
        }

        boolean same(Fraction other) {
            return java.util.Arrays.equals(over, other.over) && java.util.Arrays.equals(under, other.under);
        }

        int[] part(boolean denominator) {
            return denominator ? under : over;
        }
    }

    final List<Fraction> labels = new ArrayList<>();
    final List<Integer> shapes = new ArrayList<>();
    final Fraction[] names = new Fraction[3];
    private String line;
    private int place;

    int shapeCount() {
        int most = 0;
        for (int shape : shapes) {
            most = Math.max(most, shape);
        }
        return most;
    }

    int shapeOf(Fraction fraction) {
        for (int i = 0; i < shapes.size(); i++) {
            if (labels.get(i).same(fraction)) {
                return shapes.get(i);
            }
        }
        return shapeCount() + 1;
    }

    /** For good lines alone. */
    int enter(String text) {
        if (labels.size() == 40) {
            return RationalSession.FULL;
        }
        line = text + "\n";
        place = line.charAt(1) == ':' ? 2 : 0;
        Fraction result;
        try {
            result = sum();
        } catch (Trouble trouble) {
            return trouble.code;
        }
        shapes.add(shapeOf(result));
        labels.add(result);
        if (line.charAt(1) == ':') {
            names[line.charAt(0) - 'a'] = result;
        }
        return labels.size();
    }

    private boolean takes(char c) {
        if (line.charAt(place) != c) {
            return false;
        }
        place++;
        return true;
    }

    private Fraction sum() {
        boolean negative = takes('-');
        if (!negative) {
            takes('+');
        }
        Fraction left = term();
        if (negative) {
            left = small(times(number(P - 1), left));
        }
        while (true) {
            if (takes('+')) {
                left = small(plus(left, term()));
            } else if (takes('-')) {
                left = small(plus(left, times(number(P - 1), term())));
            } else {
                return left;
            }
        }
    }

    private Fraction term() {
        Fraction left = power();
        while (true) {
            if (takes('*')) {
                left = small(times(left, power()));
            } else if (takes('/')) {
                left = small(times(left, oneOver(power())));
            } else {
                return left;
            }
        }
    }

    private Fraction power() {
        Fraction base = atom();
        if (!takes('^')) {
            return base;
        }
        boolean negative = takes('-');
        int count = digits();
        Fraction result = number(1);
        for (int i = 0; i < count; i++) {
            result = times(result, base);
        }
        return small(negative ? oneOver(result) : result);
    }

    private Fraction atom() {
        char c = line.charAt(place);
        if (c >= '0' && c <= '9') {
            return number(digits() % P);
        }
        place++;
        if (c == 'x') {
            return new Fraction(new int[] {0, 1}, new int[] {1});
        }
        if (c == '%') {
            int label = digits();
            if (label < 1 || label > labels.size()) {
                throw new Trouble(RationalSession.UNBOUND);
            }
            return labels.get(label - 1);
        }
        if (c >= 'a' && c <= 'c') {
            if (names[c - 'a'] == null) {
                throw new Trouble(RationalSession.UNBOUND);
            }
            return names[c - 'a'];
        }
        if (c == '(') {
            Fraction inner = sum();
            place++;
            return inner;
        }
        place++;
        Fraction first = sum();
        place++;
        if (c == 'd') {
            return small(derivative(first));
        }
        Fraction second = sum();
        place++;
        return small(times(put(first.over, second), oneOver(put(first.under, second))));
    }

    private int digits() {
        int start = place;
        while (Character.isDigit(line.charAt(place))) {
            place++;
        }
        return Integer.parseInt(line.substring(start, place));
    }

    private static Fraction small(Fraction fraction) {
        if (fraction.over.length > 13 || fraction.under.length > 13) {
            throw new Trouble(RationalSession.TOO_BIG);
        }
        return fraction;
    }

    private static Fraction number(int worth) {
        return new Fraction(trimmed(new int[] {worth}), new int[] {1});
    }

    private static Fraction plus(Fraction a, Fraction b) {
        return new Fraction(plus(product(a.over, b.under), product(b.over, a.under)), product(a.under, b.under));
    }

    private static Fraction times(Fraction a, Fraction b) {
        return new Fraction(product(a.over, b.over), product(a.under, b.under));
    }

    private static Fraction oneOver(Fraction a) {
        if (a.isZero()) {
            throw new Trouble(RationalSession.DIVIDE);
        }
        return new Fraction(a.under, a.over);
    }

    /** d(n/d) as n' * 1/d + n * (-d' / d^2). */
    private static Fraction derivative(Fraction a) {
        Fraction first = new Fraction(derivative(a.over), a.under);
        int[] minus = product(derivative(a.under), new int[] {P - 1});
        return plus(first, new Fraction(product(a.over, minus), product(a.under, a.under)));
    }

    private static Fraction put(int[] row, Fraction inner) {
        Fraction result = number(0);
        for (int i = row.length - 1; i >= 0; i--) {
            result = plus(times(result, inner), number(row[i]));
        }
        return result;
    }

    private static int[] trimmed(int[] row) {
        int length = row.length;
        while (length > 0 && row[length - 1] == 0) {
            length--;
        }
        return java.util.Arrays.copyOf(row, length);
    }

    private static int[] plus(int[] a, int[] b) {
        int[] sum = new int[Math.max(a.length, b.length)];
        for (int i = 0; i < sum.length; i++) {
            sum[i] = ((i < a.length ? a[i] : 0) + (i < b.length ? b[i] : 0)) % P;
        }
        return trimmed(sum);
    }

    private static int[] product(int[] a, int[] b) {
        int[] result = new int[a.length + b.length];
        for (int i = 0; i < a.length; i++) {
            for (int j = 0; j < b.length; j++) {
                result[i + j] = (result[i + j] + a[i] * b[j]) % P;
            }
        }
        return trimmed(result);
    }

    private static int[] derivative(int[] row) {
        int[] result = new int[Math.max(0, row.length - 1)];
        for (int i = 0; i < result.length; i++) {
            result[i] = row[i + 1] * (i + 1) % P;
        }
        return trimmed(result);
    }

    /** Quotient and remainder, taking one power after another away. */
    private static int[][] divide(int[] row, int[] by) {
        int[] quotient = new int[Math.max(0, row.length - by.length + 1)];
        int[] rest = row;
        while (rest.length >= by.length) {
            int shift = rest.length - by.length;
            int[] part = new int[shift + 1];
            part[shift] = rest[rest.length - 1] * inverse(by[by.length - 1]) % P;
            quotient[shift] = part[shift];
            rest = plus(rest, product(product(part, by), new int[] {P - 1}));
        }
        return new int[][] {trimmed(quotient), rest};
    }

    private static int[] commonDivisor(int[] a, int[] b) {
        return b.length == 0 ? a : commonDivisor(b, divide(a, b)[1]);
    }

    static int inverse(int number) {
        return BigInteger.valueOf(number).modInverse(BigInteger.valueOf(P)).intValue();
    }

    static int valueAt(int[] row, int point) {
        long sum = 0;
        long power = 1;
        for (int factor : row) {
            sum = (sum + factor * power) % P;
            power = power * point % P;
        }
        return (int) sum;
    }

    static String text(Fraction fraction) {
        if (fraction.under.length == 1) {
            return text(fraction.over);
        }
        return "(" + text(fraction.over) + ")/(" + text(fraction.under) + ")";
    }

    private static String text(int[] row) {
        List<String> parts = new ArrayList<>();
        for (int i = row.length - 1; i >= 0; i--) {
            String part = row[i] + (i == 0 ? "" : i == 1 ? "*x" : "*x^" + i);
            if (row[i] != 0) {
                parts.add(row[i] == 1 && i > 0 ? part.substring(2) : part);
            }
        }
        return parts.isEmpty() ? "0" : String.join("+", parts);
    }
}
