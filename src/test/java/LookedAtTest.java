import java.io.IOException;
import java.nio.file.Files;
import java.nio.file.Path;
import java.util.ArrayList;
import java.util.List;
import java.util.regex.Matcher;
import java.util.regex.Pattern;

/**
 * Rule 7 of ../shared/LANGUAGE.md, as far as it can be read off the file: an index, a divisor and a length are
 * looked at in the very method that uses them, ahead of that. It goes by words alone, so that it finds what was
 * forgotten, not what is looked at wrongly.
 */
public final class LookedAtTest {
    private static final Path SOURCE = Path.of("src/main/java/RuleCrypts.java");
    private static final Pattern INDEX = Pattern.compile("(?<!new )\\b([A-Za-z_][\\w.]*)\\[(?!\\])");
    private static final Pattern DIVISION = Pattern.compile("[/%]=? *([\\w.]+)");
    private static final Pattern NEW_ARRAY = Pattern.compile("new \\w+\\[([^\\]]*)\\]");
    private static final Pattern COPY = Pattern.compile("Arrays\\.copyOf(?:Range)?\\((\\w+), (.*)$", Pattern.MULTILINE);
    private static final Pattern CAST = Pattern.compile("\\((int|long|short|byte|char|[A-Z]\\w*)\\) ?[\\w(]");

    private LookedAtTest() {
    }

    public static void main(String[] args) throws IOException {
        theReaderItself();
        List<String> methods = methods(Files.readString(SOURCE));
        Checks.due("methods are found", methods.size() > 60, true);
        for (String method : methods) {
            Checks.due(name(method) + " uses without a look", forgotten(method).toString(), "[]");
        }
        Checks.end();
    }

    /** Short methods of which it is known what they forgot. */
    private static void theReaderItself() {
        readDue("int f(int i) { return row[i]; }", "[row[i]]");
        readDue("int f(int i) { return row[i] + (i < 3 ? 1 : 0); }", "[row[i]]");
        readDue("int f(int i) { return i >= 0 && i < row.length ? row[i] : 0; }", "[]");
        readDue("int f() { return row[3] + row[MOST] + row[remainder(a, 3)]; }", "[]");
        readDue("int f(int i) { return isRoom(i) ? row[row[i]] : 0; }", "[row[row[i]]]");
        readDue("int f(int a) { return 12 / a; }", "[divisor a]");
        readDue("int f(int a) { return a > 0 ? 12 % a / 3 : 0; }", "[]");
        readDue("int f(int a) { return new int[a].length; }", "[length a]");
        readDue("int[] f() { return Arrays.copyOf(row, a); }", "[length a]");
        readDue("Pack f(Part part) { return (Pack) part; }", "[(Pack) p]");
        Checks.due("methods of classes inside", methods("class A { int a; class B { void f() { g(); } } int h() "
                + "{ if (a) { i(); } } int[] r = {1}; }").size(), 2);
    }

    private static void readDue(String method, String due) {
        Checks.due("forgotten in " + method, forgotten(method).toString(), due);
    }

    private static String name(String method) {
        int end = method.indexOf('(');
        return end < 0 ? method : method.substring(0, end).trim();
    }

    private static List<String> forgotten(String method) {
        List<String> found = new ArrayList<>();
        Matcher index = INDEX.matcher(method);
        while (index.find()) {
            String inside = inBrackets(method, index.end());
            if (!isLookedAt(inside, method.substring(0, index.start()))) {
                found.add(index.group(1) + "[" + inside + "]");
            }
        }
        add(found, DIVISION.matcher(method), method, 1, "divisor ");
        add(found, NEW_ARRAY.matcher(method), method, 1, "length ");
        Matcher copy = COPY.matcher(method);
        while (copy.find()) {
            if (!copy.group(2).startsWith("Math.max(") && !copy.group(2).matches("\\d.*")) {
                found.add("length " + copy.group(2).replaceFirst("\\).*", ""));
            }
        }
        Matcher cast = CAST.matcher(method);
        while (cast.find()) {
            found.add(cast.group());
        }
        return found;
    }

    private static void add(List<String> found, Matcher uses, String method, int group, String what) {
        while (uses.find()) {
            if (!isLookedAt(uses.group(group), method.substring(0, uses.start()))) {
                found.add(what + uses.group(group));
            }
        }
    }

    /** A number, a constant, a remainder, or a name that is compared or asked about ahead of the use. */
    private static boolean isLookedAt(String used, String ahead) {
        if (used.matches("\\d+|[A-Z][A-Z_]*|remainder\\(.*\\)")) {
            return true;
        }
        if (!used.matches("\\w+")) {
            return false;
        }
        String asked = "(?s).*(\\b" + used + " (<|<=|>|>=) .*|\\b(isRoom|requireRoom|requireRule)\\(" + used
                + "\\).*|\\b" + used + " = remainder\\(.*)";
        return ahead.matches(asked);
    }

    private static String inBrackets(String text, int start) {
        int open = 1;
        for (int i = start; i < text.length(); i++) {
            open += text.charAt(i) == '[' ? 1 : text.charAt(i) == ']' ? -1 : 0;
            if (open == 0) {
                return text.substring(start, i);
            }
        }
        return text.substring(start);
    }

    /** The texts of all methods, from their names to their closing braces, without comments and written texts. */
    private static List<String> methods(String source) {
        String text = source.replaceAll("(?s)/\\*.*?\\*/", "").replaceAll("//[^\n]*", "")
                .replaceAll("\"[^\"\n]*\"", "\"\"");
        List<String> methods = new ArrayList<>();
        int from = 0;
        int start = -1;
        int depth = 0;
        for (int i = 0; i < text.length(); i++) {
            char sign = text.charAt(i);
            if (start >= 0) {
                depth += sign == '{' ? 1 : sign == '}' ? -1 : 0;
                if (depth == 0) {
                    methods.add(text.substring(start, i + 1).trim());
                    start = -1;
                }
            } else if (sign == '{' && text.substring(from, i).contains("(")) {
                start = from;
                depth = 1;
            }
            if (sign == '{' || sign == '}' || sign == ';') {
                from = i + 1;
            }
        }
        return methods;
    }
}
