import java.io.IOException;
import java.lang.reflect.Constructor;
import java.lang.reflect.Field;
import java.lang.reflect.Method;
import java.lang.reflect.Modifier;
import java.nio.file.Files;
import java.nio.file.Path;
import java.util.ArrayList;
import java.util.List;
import java.util.regex.Matcher;
import java.util.regex.Pattern;

/** Rules of LANGUAGE.md that can be seen from the text of the class, or by reflection. FaceTest has rule 1. */
public final class LanguageTest {
    private static final Path SOURCE = Path.of("src/main/java/FarCells.java");

    private static final Due due = new Due();

    public static void main(String[] args) throws IOException {
        String whole = Files.readString(SOURCE);
        String code = withoutCommentsAndTexts(whole);
        due.by("the whole file");
        due.is("signs above 127", whole.chars().filter(sign -> sign > 127).count(), 0);
        none(code, "\\bpackage\\b");
        onlyListed(code);
        noneRuledOut(code);
        exceptionsAreListed(code);
        List<List<String>> methods = methodsOf(code);
        due.by("the class has its methods where this test looks for them");
        due.is("methods", methods.size(), methodsByReflection());
        nothingIsMadeInMethods(methods);
        methodsAreShort(methods);
        sizes();
        due.end();
    }

    private static String withoutCommentsAndTexts(String text) {
        return text.replaceAll("(?s)/\\*.*?\\*/", "").replaceAll("//[^\n]*", "").replaceAll("\"[^\"\n]*\"", "\"\"");
    }

    private static void none(String code, String pattern) {
        Matcher found = Pattern.compile(pattern).matcher(code);
        while (found.find()) {
            due.tell("it has " + found.group());
        }
    }

    private static void onlyListed(String code) {
        due.by("rule 4: only what stands here");
        none(code, "\\bimport (?!java\\.util\\.(Arrays|ArrayList|List|Iterator|NoSuchElementException);)[^;]*");
        none(code, "\\bjava\\.(?!util\\.)\\w+");
        none(code, "\\bSystem\\.(?!arraycopy\\()\\w+");
        none(code, "\\bArrays\\.(?!(copyOf|copyOfRange|fill)\\()\\w+");
        none(code, "\\b\\w+Exact\\b");
        due.by("rule 3: types");
        none(code, "\\b(double|float|Object|Long|Short|Byte|Character|Boolean|Map|Set|var)\\b(?!\\.)");
    }

    private static void noneRuledOut(String code) {
        due.by("rules 2, 6 and 13: ruled out");
        none(code, "->|::|@\\w+");
        none(code, "\\b(finally|synchronized|assert|Thread|Runnable|native|volatile|transient|hashCode|toString)\\b");
        none(code, "\\bstatic\\s*\\{");
        due.by("rule 5: static fields are final");
        none(code, "\\bstatic (?!final\\b)(\\w+ )*\\w+(\\[\\])? \\w+( =|;)");
    }

    private static void exceptionsAreListed(String code) {
        String listed = "(IllegalStateException|IllegalArgumentException|IndexOutOfBoundsException|ArithmeticException"
            + "|UnsupportedOperationException|NoSuchElementException|RuntimeException)";
        due.by("rule 6: throw new E() or throw new E(a written text)");
        none(code, "\\bthrow (?!new " + listed + "\\((\"\")?\\);)[^;]*");
        due.by("no call is answered by catching what the machine throws");
        none(code, "\\bcatch \\((?!(IllegalStateException|IllegalArgumentException|UnsupportedOperationException) )[^)]*");
    }

    /** What calls make would have to be counted; so all but exceptions is made when the object is. */
    private static void nothingIsMadeInMethods(List<List<String>> methods) {
        due.by("rule 12: what a run makes is counted");
        for (List<String> method : methods) {
            boolean constructor = method.get(0).matches(" +(public )?[A-Z]\\w+\\(.*");
            for (String line : method) {
                if (!constructor && line.matches(".*\\bnew\\b.*") && !line.contains("throw new")) {
                    due.tell("made in a method:" + line);
                }
            }
        }
    }

    private static void methodsAreShort(List<List<String>> methods) {
        due.by("rule 11: methods stay short (some sixty lines)");
        for (List<String> method : methods) {
            due.is(method.get(0) + " is short", method.size() <= 60 ? 1 : 0, 1);
        }
    }

    /** The lines of each method and constructor, from its head to the brace that stands under it. */
    private static List<List<String>> methodsOf(String code) {
        List<List<String>> methods = new ArrayList<>();
        List<String> open = null;
        String end = "";
        for (String line : code.split("\n")) {
            if (open == null && line.matches(" {4}( {4})?\\w[\\w\\[\\] ]*\\(.*\\{")) {
                open = new ArrayList<>();
                end = line.substring(0, line.length() - line.stripLeading().length()) + "}";
            }
            if (open != null) {
                open.add(line);
            }
            if (open != null && line.equals(end)) {
                methods.add(open);
                open = null;
            }
        }
        return methods;
    }

    private static void sizes() {
        due.by("rule 11: sizes");
        Class<?>[] inside = FarCells.class.getDeclaredClasses();
        due.is("at most twelve classes", inside.length + 1 <= 12 ? 1 : 0, 1);
        sizesOf(FarCells.class);
        for (Class<?> c : inside) {
            sizesOf(c);
        }
    }

    private static int methodsByReflection() {
        // The outer class and each class inside with a constructor that is written out.
        int found = FarCells.class.getDeclaredMethods().length + FarCells.class.getDeclaredConstructors().length;
        for (Class<?> c : FarCells.class.getDeclaredClasses()) {
            found += c.getDeclaredMethods().length;
            for (Constructor<?> made : c.getDeclaredConstructors()) {
                found += made.getParameterCount() > 0 ? 1 : 0;
            }
        }
        return found;
    }

    private static void sizesOf(Class<?> c) {
        int fields = 0;
        for (Field f : c.getDeclaredFields()) {
            fields += Modifier.isStatic(f.getModifiers()) ? 0 : 1;
        }
        due.is(c + " has at most twenty fields", fields <= 20 ? 1 : 0, 1);
        for (Method m : c.getDeclaredMethods()) {
            due.is(m + " takes at most seven", m.getParameterCount() <= 7 ? 1 : 0, 1);
        }
        for (Constructor<?> made : c.getDeclaredConstructors()) {
            due.is(made + " takes at most seven", made.getParameterCount() <= 7 ? 1 : 0, 1);
        }
    }
}
