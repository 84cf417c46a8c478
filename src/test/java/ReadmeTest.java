import java.lang.reflect.Field;
import java.lang.reflect.Method;
import java.lang.reflect.Modifier;
import java.nio.file.Files;
import java.nio.file.Path;

/** What README.md tells of the class: its two sessions, calls and constants. The argument is the project's root. */
public final class ReadmeTest {
    public static void main(String[] args) throws Exception {
        String readme = Files.readString(Path.of(args.length > 0 ? args[0] : ".", "README.md"));
        firstSession(readme);
        sessionLineByLine(readme);
        calls(readme);
        constants(readme);
        Check.end();
    }

    private static void firstSession(String readme) {
        Check.sentence("README.md, Use", "a:(x^2-1)/(x-1)");
        Check.that("the line is told", readme.contains("\"a:(x^2-1)/(x-1)\".toCharArray()"));
        RationalSession session = new RationalSession();
        int label = Typist.enter(session, "a:(x^2-1)/(x-1)");
        Check.due("enter()", label, 1);
        Check.due("bound(0)", session.bound(0), session.shape(label));
        Check.due("value(label, 4)", session.value(label, 4), 5);
        Check.due("text(label, 0)", session.text(label, 0), 'x');
        Check.due("its text", Typist.text(session, label), "x+1");
    }

    /** The rows of the table under "Lines": | `line` | answer | what is asked then |. */
    private static void sessionLineByLine(String readme) throws Exception {
        Check.sentence("README.md, Lines", "One session, line by line");
        RationalSession session = new RationalSession();
        String part = readme.substring(readme.indexOf("One session, line by line"), readme.indexOf("### Calls"));
        int rows = 0;
        for (String row : part.split("\n")) {
            if (row.startsWith("| `")) {
                String[] cells = row.split("\\|");
                String line = cells[1].trim().replace("`", "");
                int answer = Typist.enter(session, line);
                Check.due(line, answer, worth(cells[2].trim()));
                then(session, answer, cells[3].trim());
                rows++;
            }
        }
        Check.due("rows", rows, 9);
    }

    /** A number, or the name of a constant. */
    private static int worth(String answer) throws Exception {
        if (Character.isDigit(answer.charAt(0))) {
            return Integer.parseInt(answer);
        }
        return RationalSession.class.getField(answer).getInt(null);
    }

    private static void then(RationalSession session, int answer, String told) {
        if (told.startsWith("text ")) {
            Check.due(told, Typist.text(session, answer), told.substring(5).replace("`", ""));
        } else if (told.startsWith("shape ")) {
            Check.due(told, session.shape(answer), Integer.parseInt(told.substring(6)));
        } else if (told.startsWith("bad place ")) {
            Check.due(told, session.badPlace(), Integer.parseInt(told.substring(10)));
        } else {
            Check.due("nothing more is told", told, "");
        }
    }

    private static void calls(String readme) {
        Check.sentence("README.md, Calls", "call");
        for (Method method : RationalSession.class.getDeclaredMethods()) {
            if (Modifier.isPublic(method.getModifiers())) {
                Check.that(method.getName() + " is told", readme.contains("`" + method.getName() + "("));
            }
        }
    }

    private static void constants(String readme) {
        Check.sentence("README.md, Calls", "one of the negative constants");
        for (Field field : RationalSession.class.getFields()) {
            Check.that(field.getName() + " is told", readme.contains("`" + field.getName() + "`"));
        }
    }
}
