import java.util.Random;

/** Makes lines: good ones by the grammar, and good ones with some characters changed. */
final class Lines {
    private static final String CHARACTERS = "0123456789xabcds%+-*/^(),:";

    private final Random random;

    Lines(long seed) {
        random = new Random(seed);
    }

    int below(int bound) {
        return random.nextInt(bound);
    }

    /** A good line; never longer than a line may be. */
    String good() {
        for (int attempt = 0; attempt < 1000; attempt++) {
            String target = below(4) == 0 ? name() + ":" : "";
            String line = target + sum(below(9));
            if (line.length() <= 32 && Grammar.badPlace(line) == -1) {
                return line;
            }
        }
        return "x";
    }

    String mostlyBad() {
        StringBuilder line = new StringBuilder(below(5) == 0 ? nested() : good());
        int changes = below(3);
        for (int i = 0; i < changes; i++) {
            int place = below(line.length() + 1);
            char c = CHARACTERS.charAt(below(CHARACTERS.length()));
            int way = below(4);
            if (way == 0) {
                line.insert(place, c);
            } else if (way == 1 && place < line.length()) {
                line.setCharAt(place, c);
            } else if (way == 2 && place < line.length()) {
                line.deleteCharAt(place);
            } else {
                line.setLength(place);
            }
        }
        return line.length() <= 32 ? line.toString() : line.substring(0, 32);
    }

    /** Many openings, about as many as may be open. */
    private String nested() {
        StringBuilder line = new StringBuilder();
        StringBuilder end = new StringBuilder();
        int count = 5 + below(6);
        for (int i = 0; i < count; i++) {
            int way = below(8);
            line.append(way == 0 ? "d(" : way == 1 ? "s(x," : way == 2 ? "s(" : "(");
            end.insert(0, way == 2 ? ",x)" : ")");
        }
        return line + atom(0) + end;
    }

    private String sum(int depth) {
        StringBuilder text = new StringBuilder();
        int sign = below(6);
        text.append(sign == 0 ? "-" : sign == 1 ? "+" : "");
        text.append(term(depth));
        for (int i = below(3); i > 0; i--) {
            text.append(below(2) == 0 ? "+" : "-").append(term(depth));
        }
        return text.toString();
    }

    private String term(int depth) {
        StringBuilder text = new StringBuilder(power(depth));
        for (int i = below(3); i > 0; i--) {
            text.append(below(2) == 0 ? "*" : "/").append(power(depth));
        }
        return text.toString();
    }

    private String power(int depth) {
        String text = atom(depth);
        if (below(3) > 0) {
            return text;
        }
        int worth = below(4) == 0 ? below(13) : below(4);
        return text + (below(3) == 0 ? "^-" : "^") + (below(8) == 0 && worth < 10 ? "0" : "") + worth;
    }

    private String atom(int depth) {
        int way = below(depth > 0 ? 14 : 8);
        if (way < 3) {
            return "x";
        }
        if (way < 5) {
            return "" + (below(5) == 0 ? below(100000) : below(4));
        }
        if (way < 7) {
            return "" + name();
        }
        if (way == 7) {
            return "%" + (below(10) == 0 ? below(100) : below(12));
        }
        if (way == 8) {
            return "d(" + sum(depth / 2) + ")";
        }
        if (way == 9) {
            return "s(" + sum(depth / 3) + "," + sum(depth / 3) + ")";
        }
        return "(" + sum(depth / 2) + ")";
    }

    private char name() {
        return (char) ('a' + below(3));
    }
}
