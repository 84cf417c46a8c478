import java.lang.reflect.Constructor;
import java.lang.reflect.Field;
import java.lang.reflect.Method;
import java.lang.reflect.Modifier;
import java.nio.file.Files;
import java.nio.file.Path;
import java.util.Set;
import java.util.TreeSet;
import java.util.regex.Pattern;

/** The public face, and those rules of LANGUAGE.md that a test can see. The argument is the project's root. */
public final class FaceTest {
    private static final String[] METHODS = {
        "int type(int)", "int types(long)", "int back()", "int enter()", "int badPlace()",
        "int degree(int, boolean)", "int coefficient(int, boolean, int)", "int shape(int)", "int shapes()",
        "int labels()", "int bound(int)", "int value(int, int)", "int text(int, int)", "int line(int)",
        "void reset()",
    };
    private static final String[] FORBIDDEN = {
        "throw", "throws", "try", "catch", "synchronized", "assert", "import", "package", "protected",
        "equals", "hashCode", "toString", "\\w+Exact",
    };

    public static void main(String[] args) throws Exception {
        constants();
        face();
        insideClasses();
        source(Files.readString(Path.of(args.length > 0 ? args[0] : ".", "src/main/java/RationalSession.java")));
        Check.end();
    }

    private static void constants() {
        Check.due("REFUSED", RationalSession.REFUSED, -1);
        Check.due("FULL", RationalSession.FULL, -2);
        Check.due("SYNTAX", RationalSession.SYNTAX, -3);
        Check.due("UNBOUND", RationalSession.UNBOUND, -4);
        Check.due("DIVIDE", RationalSession.DIVIDE, -5);
        Check.due("TOO_BIG", RationalSession.TOO_BIG, -6);
        Check.due("POLE", RationalSession.POLE, -7);
    }

    private static void face() {
        Class<?> program = RationalSession.class;
        Check.that("public and final", Modifier.isPublic(program.getModifiers()) && Modifier.isFinal(program.getModifiers()));
        Set<String> found = new TreeSet<>();
        Set<String> publicNames = new TreeSet<>();
        for (Method method : program.getDeclaredMethods()) {
            if (!Modifier.isPrivate(method.getModifiers())) {
                found.add(signature(method));
                publicNames.add(method.getName());
                Check.that(method + " is public", Modifier.isPublic(method.getModifiers()));
                Check.that(method + " is no static one", !Modifier.isStatic(method.getModifiers()));
            }
        }
        Check.due("methods", found.toString(), new TreeSet<>(Set.of(METHODS)).toString());
        for (Method method : program.getDeclaredMethods()) {
            if (Modifier.isPrivate(method.getModifiers())) {
                Check.that(method.getName() + " is no public name", !publicNames.contains(method.getName()));
            }
        }
        int constants = 0;
        for (Field field : program.getDeclaredFields()) {
            boolean isPublic = Modifier.isPublic(field.getModifiers());
            Check.that(field + " is public or private", isPublic || Modifier.isPrivate(field.getModifiers()));
            constants += isPublic ? 1 : 0;
        }
        Check.due("public constants", constants, 7);
        Constructor<?>[] constructors = program.getDeclaredConstructors();
        Check.due("constructors", constructors.length, 1);
        Check.due("constructor's parameters", constructors[0].getParameterCount(), 0);
        Check.that("constructor is public", Modifier.isPublic(constructors[0].getModifiers()));
    }

    private static String signature(Method method) {
        StringBuilder text = new StringBuilder(method.getReturnType() + " " + method.getName() + "(");
        for (int i = 0; i < method.getParameterCount(); i++) {
            text.append(i == 0 ? "" : ", ").append(method.getParameterTypes()[i]);
        }
        return text.append(")").toString();
    }

    private static void insideClasses() {
        Class<?>[] inside = RationalSession.class.getDeclaredClasses();
        Check.that("at most twelve classes", inside.length + 1 <= 12);
        for (Class<?> one : inside) {
            Check.that(one + " is static", Modifier.isStatic(one.getModifiers()));
            Check.that(one + " is not public", !Modifier.isPublic(one.getModifiers()));
            int fields = 0;
            for (Field field : one.getDeclaredFields()) {
                boolean isStatic = Modifier.isStatic(field.getModifiers());
                Check.that(field + " is final if static", !isStatic || Modifier.isFinal(field.getModifiers()));
                fields += isStatic ? 0 : 1;
            }
            Check.that(one + " has at most twenty fields", fields <= 20);
            for (Method method : one.getDeclaredMethods()) {
                Check.that(method + " has at most seven parameters", method.getParameterCount() <= 7);
            }
        }
    }

    private static void source(String source) {
        String code = source.replaceAll("(?s)/\\*.*?\\*/", "").replaceAll("//[^\n]*", "");
        for (String word : FORBIDDEN) {
            Check.that("no " + word, !Pattern.compile("\\b" + word + "\\b").matcher(code).find());
        }
        Check.that("no lambda", !code.contains("->"));
        Check.that("no method reference", !code.contains("::"));
        for (int i = 0; i < source.length(); i++) {
            if (source.charAt(i) > 126) {
                Check.that("plain characters, at " + i, false);
            }
        }
    }
}
