import java.io.IOException;
import java.lang.reflect.Constructor;
import java.lang.reflect.Field;
import java.lang.reflect.Method;
import java.lang.reflect.Modifier;
import java.nio.file.Files;
import java.nio.file.Path;
import java.util.Set;
import java.util.TreeSet;
import java.util.regex.Matcher;
import java.util.regex.Pattern;

/** The public face, as the document lists it, and those rules of LANGUAGE.md that can be seen from the text. */
public final class FaceTest {
    private static final Pattern WORDS = Pattern.compile("[A-Za-z_][A-Za-z_0-9]*");
    private static final Pattern LIBRARY = Pattern.compile(
            "\\b(System|Math|Integer|Long|Arrays|List|ArrayList|Thread|Runtime|Character|Object)\\.?\\s*(\\w*)");
    private static final Set<String> FORBIDDEN = Set.of("throw", "throws", "try", "catch", "finally", "synchronized",
            "assert", "import", "package", "protected", "volatile", "native", "var", "yield", "equals", "hashCode",
            "toString", "getClass", "intern", "double", "float");
    private static final Set<String> LIBRARY_USED = Set.of("System arraycopy", "Math max", "Math min", "Math abs",
            "Integer bitCount");

    public static void main(String[] args) throws IOException {
        Set<String> documented = documentedMethods();
        Check.due("methods of the document", documented.size(), 60);
        Check.that("the methods are those of the document " + documented, documented.equals(publicMethods()));
        fields();
        constructors();
        classes();
        text(Files.readString(Path.of(args[0])));
        Check.end();
    }

    private static Set<String> documentedMethods() throws IOException {
        Set<String> methods = new TreeSet<>();
        Matcher lines = Pattern.compile("^    public (int|long) (\\w+)\\(([^)]*)\\);", Pattern.MULTILINE)
                .matcher(Files.readString(Path.of("../shared/DOC.md")));
        while (lines.find()) {
            String types = lines.group(3).replaceAll("(\\w+) \\w+", "$1").replace(" ", "");
            methods.add(lines.group(1) + " " + lines.group(2) + "(" + types + ")");
        }
        return methods;
    }

    private static Set<String> publicMethods() {
        Set<String> methods = new TreeSet<>();
        Set<String> names = new TreeSet<>();
        for (Method method : OnTheRoof.class.getDeclaredMethods()) {
            if (Modifier.isPublic(method.getModifiers())) {
                StringBuilder types = new StringBuilder();
                for (Class<?> type : method.getParameterTypes()) {
                    types.append(types.length() == 0 ? "" : ",").append(type);
                }
                methods.add(method.getReturnType() + " " + method.getName() + "(" + types + ")");
                names.add(method.getName());
            }
        }
        for (Method method : OnTheRoof.class.getDeclaredMethods()) {
            if (!Modifier.isPublic(method.getModifiers())) {
                Check.that(method + " is private", Modifier.isPrivate(method.getModifiers()));
                Check.that(method + " has a name of its own", !names.contains(method.getName()));
            }
        }
        for (Class<?> inside : OnTheRoof.class.getDeclaredClasses()) {
            for (Method method : inside.getDeclaredMethods()) {
                Check.that(method + " has a name of its own", !names.contains(method.getName()));
            }
        }
        return methods;
    }

    private static void fields() {
        int ofObject = 0;
        for (Field field : OnTheRoof.class.getDeclaredFields()) {
            int is = field.getModifiers();
            boolean isNone = field.getName().equals("NONE");
            Check.that(field + " is as hidden as it should be", isNone ? Modifier.isPublic(is) : Modifier.isPrivate(is));
            Check.that(field + " is final, if it is static", !Modifier.isStatic(is) || Modifier.isFinal(is));
            ofObject += Modifier.isStatic(is) ? 0 : 1;
        }
        Check.that("some twenty fields", ofObject <= 20);
    }

    private static void constructors() {
        Constructor<?>[] all = OnTheRoof.class.getDeclaredConstructors();
        Check.due("constructors", all.length, 1);
        Check.due("what it takes", all[0].getParameterCount(), 0);
        Check.that("it is public", Modifier.isPublic(all[0].getModifiers()));
        Check.that("the class is public and final", OnTheRoof.class.getModifiers() == (Modifier.PUBLIC | Modifier.FINAL));
    }

    private static void classes() {
        Class<?>[] inside = OnTheRoof.class.getDeclaredClasses();
        Check.that("some twelve classes", inside.length <= 11);
        for (Class<?> one : inside) {
            Check.that(one + " is static", Modifier.isStatic(one.getModifiers()));
            Check.that(one + " isn't public", !Modifier.isPublic(one.getModifiers()));
            for (Field field : one.getDeclaredFields()) {
                int is = field.getModifiers();
                Check.that(field + " is final, if it is static", !Modifier.isStatic(is) || Modifier.isFinal(is));
            }
            for (Method method : one.getDeclaredMethods()) {
                Check.that(method + " has few parameters", method.getParameterCount() <= 7);
            }
        }
    }

    private static void text(String source) {
        String code = source.replaceAll("(?s)/\\*.*?\\*/", "").replaceAll("//[^\n]*", "")
                .replaceAll("\"[^\"\n]*\"", "\"\"").replaceAll("'[^'\n]*'", "' '");
        Matcher words = WORDS.matcher(code);
        while (words.find()) {
            Check.that("no " + words.group(), !FORBIDDEN.contains(words.group()));
        }
        Matcher library = LIBRARY.matcher(code);
        while (library.find()) {
            String used = library.group(1) + " " + library.group(2);
            Check.that("no " + used, LIBRARY_USED.contains(used));
        }
        Check.that("no lambda", !code.contains("->"));
        Check.that("no method reference", !code.contains("::"));
        for (int i = 0; i < source.length(); i++) {
            if (source.charAt(i) > 127) {
                Check.that("a sign above 127 at " + i, false);
            }
        }
        methodLengths(code);
    }

    /** A method begins with an opening brace behind a parenthesis, four or eight blanks in, and ends as far in. */
    private static void methodLengths(String code) {
        String[] lines = code.split("\n");
        Pattern head = Pattern.compile("^(    |        )[a-zA-Z][^=]*\\)? ?.*\\) \\{$");
        int methods = 0;
        for (int i = 0; i < lines.length; i++) {
            Matcher start = head.matcher(lines[i]);
            if (start.matches() && !lines[i].matches("^\\s*(if|for|while|switch|else).*")) {
                int end = i;
                while (end < lines.length && !lines[end].equals(start.group(1) + "}")) {
                    end++;
                }
                methods++;
                Check.that(lines[i].trim() + " is short", end - i <= 60);
            }
        }
        Check.that("methods were seen", methods > 100);
    }
}
