import java.util.ArrayList;
import java.util.List;
import java.util.Set;
import java.util.TreeSet;

/**
 * The document's grammar, followed with all choices at once. What may still come is a set of texts of
 * symbols; a symbol above 255 is a part of the grammar, with the number of openings around it. No part
 * of the grammar is without a text, so a line that leaves the set not empty begins a good line.
 */
final class Grammar {
    private static final int LEVELS = 16;
    private static final char SUM = part(1);
    private static final char MORE_TERMS = part(2);
    private static final char TERM = part(3);
    private static final char MORE_POWERS = part(4);
    private static final char POWER = part(5);
    private static final char ATOM = part(6);
    private static final char EXPONENT = part(7);
    private static final char DIGIT = part(8);
    private static final char LINE = part(9);
    private static final char MAYBE_EXPONENT = part(10);

    private Grammar() {
    }

    private static char part(int kind) {
        return (char) (256 + kind * LEVELS);
    }

    /** -1 for a good line. */
    static int badPlace(String line) {
        Set<String> hopes = new TreeSet<>();
        hopes.add("" + LINE);
        for (int i = 0; i < line.length(); i++) {
            Set<String> next = new TreeSet<>();
            for (String hope : hopes) {
                step(hope, line.charAt(i), next);
            }
            if (next.isEmpty()) {
                return i;
            }
            hopes = next;
        }
        for (String hope : hopes) {
            if (mayEnd(hope)) {
                return -1;
            }
        }
        return line.length();
    }

    private static void step(String hope, char c, Set<String> next) {
        if (hope.isEmpty()) {
            return;
        }
        char first = hope.charAt(0);
        if (first < 256) {
            if (first == c) {
                next.add(hope.substring(1));
            }
            return;
        }
        for (String choice : choices(first)) {
            step(choice + hope.substring(1), c, next);
        }
    }

    private static boolean mayEnd(String hope) {
        for (int i = 0; i < hope.length(); i++) {
            int kind = hope.charAt(i) - (hope.charAt(i) - 256) % LEVELS;
            if (kind != MORE_TERMS && kind != MORE_POWERS && kind != MAYBE_EXPONENT) {
                return false;
            }
        }
        return true;
    }

    private static List<String> choices(char symbol) {
        int open = (symbol - 256) % LEVELS;
        char kind = (char) (symbol - open);
        List<String> list = new ArrayList<>();
        if (kind == LINE) {
            list.add(at(SUM, 0));
            for (char name = 'a'; name <= 'c'; name++) {
                list.add(name + ":" + at(SUM, 0));
            }
        } else if (kind == SUM) {
            for (String sign : new String[] {"", "+", "-"}) {
                list.add(sign + at(TERM, open) + at(MORE_TERMS, open));
            }
        } else if (kind == MORE_TERMS) {
            list.add("");
            list.add("+" + at(TERM, open) + at(MORE_TERMS, open));
            list.add("-" + at(TERM, open) + at(MORE_TERMS, open));
        } else if (kind == TERM) {
            list.add(at(POWER, open) + at(MORE_POWERS, open));
        } else if (kind == MORE_POWERS) {
            list.add("");
            list.add("*" + at(POWER, open) + at(MORE_POWERS, open));
            list.add("/" + at(POWER, open) + at(MORE_POWERS, open));
        } else if (kind == POWER) {
            // One hope, not three: hopes that differ only behind the atom would multiply in nested lines.
            list.add(at(ATOM, open) + MAYBE_EXPONENT);
        } else if (kind == MAYBE_EXPONENT) {
            list.add("");
            list.add("^" + EXPONENT);
            list.add("^-" + EXPONENT);
        } else if (kind == EXPONENT) {
            addExponents(list);
        } else if (kind == DIGIT) {
            for (char digit = '0'; digit <= '9'; digit++) {
                list.add("" + digit);
            }
        } else {
            addAtoms(list, open);
        }
        return list;
    }

    private static void addExponents(List<String> list) {
        for (int worth = 0; worth <= 12; worth++) {
            list.add("" + worth);
            if (worth < 10) {
                list.add("0" + worth);
            }
        }
    }

    private static void addAtoms(List<String> list, int open) {
        String digits = "";
        for (int i = 1; i <= 5; i++) {
            digits += DIGIT;
            list.add(digits);
        }
        list.add("%" + DIGIT);
        list.add("%" + DIGIT + DIGIT);
        list.add("x");
        list.add("a");
        list.add("b");
        list.add("c");
        if (open < 8) {
            String inner = at(SUM, open + 1);
            list.add("(" + inner + ")");
            list.add("d(" + inner + ")");
            list.add("s(" + inner + "," + inner + ")");
        }
    }

    private static String at(char kind, int open) {
        return "" + (char) (kind + open);
    }
}
