import java.io.IOException;
import java.lang.reflect.Field;
import java.lang.reflect.Modifier;
import java.nio.file.Files;
import java.nio.file.Path;
import java.util.ArrayList;
import java.util.List;
import java.util.Set;
import java.util.TreeSet;
import java.util.regex.Matcher;
import java.util.regex.Pattern;

/** What of LANGUAGE.md can be seen in the source itself; FaceTest has rule 1, AnyCallTest rules 6 and 7. */
public final class RulesTest {
    private static final Due CHECK = new Due();
    private static final Path SOURCE = Path.of("src/main/java/SeatDesk.java");
    private static final int LONGEST_METHOD = 60, MOST_FIELDS = 20, MOST_PARAMETERS = 7;

    public static void main(String[] args) throws IOException {
        String text = Files.readString(SOURCE).replaceAll("/\\*(?s:.*?)\\*/|//[^\n]*", "").replaceAll("\"[^\"\n]*\"", "\"\"");
        words(text);
        library(text);
        exceptions(text);
        fields();
        methods(text);
        CHECK.end();
    }

    private static void words(String text) {
        String[] ruledOut = {"->", "::", "\\bfinally\\b", "\\bsynchronized\\b", "\\bassert\\b", "\\btry\\b", "\\bpackage\\b",
            "\\bnative\\b", "\\bstatic\\s*\\{", "\\bvar\\b", "\\bdouble\\b", "\\bfloat\\b", "\\btoString\\b", "\\bhashCode\\b",
            "\\bequals\\b", "\\bwhile\\s*\\(\\s*true\\b", "\\bfor\\s*\\([^;()]*;\\s*;", "\\[\\]\\[\\]\\["};
        for (String word : ruledOut) {
            CHECK.due("times that " + word + " stands there", count(word, text), 0);
        }
    }

    private static void library(String text) {
        Set<String> imports = new TreeSet<>(all("\\bimport ([\\w.*]+);", text));
        CHECK.due("imports are these two: " + imports, imports.equals(Set.of("java.util.Arrays", "java.util.NoSuchElementException")), true);
        Set<String> allowed = Set.of("System.arraycopy", "Arrays.fill", "Arrays.copyOf", "Arrays.copyOfRange",
            "Integer.bitCount", "Integer.compare", "Math.max", "Math.min", "Math.abs");
        for (String call : all("\\b((?:System|Arrays|Integer|Long|Math|Character|Thread|Runtime|Objects)\\.\\w+)", text)) {
            CHECK.due("is in the library of rule 4: " + call, allowed.contains(call), true);
        }
    }

    private static void exceptions(String text) {
        CHECK.due("throws that are not NoSuchElementException", count("\\bthrow\\s+(?!new NoSuchElementException\\(\"\"\\);)", text), 0);
        CHECK.due("throws", count("\\bthrow\\s", text), 2);
    }

    private static void fields() {
        List<Class<?>> classes = new ArrayList<>(List.of(SeatDesk.class.getDeclaredClasses()));
        classes.add(SeatDesk.class);
        for (Class<?> c : classes) {
            int own = 0;
            for (Field f : c.getDeclaredFields()) {
                boolean constant = Modifier.isStatic(f.getModifiers());
                own += constant ? 0 : 1;
                CHECK.due("a constant is final and an int: " + f.getName(),
                    !constant || Modifier.isFinal(f.getModifiers()) && f.getType() == int.class, true);
            }
            CHECK.due("some twenty fields at most in " + c.getSimpleName() + ", which has " + own, own <= MOST_FIELDS, true);
        }
    }

    /** A method's head stands alone on its line and its last brace has the same indent. */
    private static void methods(String text) {
        String[] lines = text.split("\n");
        int methods = 0;
        for (int k = 0; k < lines.length; k++) {
            Matcher head = Pattern.compile("( {4}| {8})(?:\\w+(?:\\[\\])* )*\\w+\\(([^()]*)\\)(?: throws \\w+)? \\{").matcher(lines[k]);
            if (head.matches() && !lines[k].matches(" +(if|for|while|switch) .*")) {
                int end = k;
                while (!lines[end].equals(head.group(1) + "}")) {
                    end++;
                }
                methods++;
                CHECK.due("some sixty lines at most: " + lines[k].trim(), end - k + 1 <= LONGEST_METHOD, true);
                CHECK.due("seven parameters at most: " + lines[k].trim(), head.group(2).split(",").length <= MOST_PARAMETERS, true);
            }
        }
        CHECK.due("the methods have been found: " + methods, methods >= 24, true);
    }

    private static int count(String pattern, String text) {
        return all("(" + pattern + ")", text).size();
    }

    private static List<String> all(String pattern, String text) {
        List<String> found = new ArrayList<>();
        Matcher m = Pattern.compile(pattern).matcher(text);
        while (m.find()) {
            found.add(m.group(1));
        }
        return found;
    }
}
