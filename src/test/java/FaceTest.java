import java.io.IOException;
import java.lang.reflect.Constructor;
import java.lang.reflect.Executable;
import java.lang.reflect.Field;
import java.lang.reflect.Method;
import java.lang.reflect.Modifier;
import java.nio.file.Files;
import java.nio.file.Path;
import java.util.Arrays;
import java.util.Set;
import java.util.TreeSet;
import java.util.stream.Collectors;

/** The public face as the document has it, and what of ../shared/LANGUAGE.md can be read off the file. */
public final class FaceTest {
    private static final Path DOCUMENT = Path.of("../shared/DOC.md");
    private static final Path SOURCE = Path.of("src/main/java/RuleCrypts.java");

    public static void main(String[] args) throws IOException {
        Set<String> due = new TreeSet<>();
        for (String line : Files.readAllLines(DOCUMENT)) {
            if (line.startsWith("    public ")) {
                due.add(line.trim().replaceAll("(int|boolean) \\w+(?=[,)])", "$1"));
            }
        }
        Set<String> got = new TreeSet<>();
        for (Method method : RuleCrypts.class.getDeclaredMethods()) {
            add(got, method, method.getReturnType().getSimpleName() + " " + method.getName());
        }
        for (Constructor<?> constructor : RuleCrypts.class.getDeclaredConstructors()) {
            add(got, constructor, "RuleCrypts");
        }
        Checks.due("the document has 32 promises", due.size(), 32);
        compare(due, got);
        hidden(due);
        source(Files.readString(SOURCE));
        Checks.end();
    }

    private static void add(Set<String> got, Executable member, String name) {
        if (Modifier.isPrivate(member.getModifiers()) || member.isSynthetic()) {
            return;
        }
        String modifiers = Modifier.toString(member.getModifiers());
        String thrown = names(member.getExceptionTypes());
        got.add(modifiers + " " + name + "(" + names(member.getParameterTypes()) + ")"
                + (thrown.isEmpty() ? "" : " throws " + thrown) + ";");
    }

    private static String names(Class<?>[] types) {
        return Arrays.stream(types).map(Class::getSimpleName).collect(Collectors.joining(", "));
    }

    private static void compare(Set<String> due, Set<String> got) {
        for (String member : due) {
            Checks.due("is there: " + member, got.contains(member), true);
        }
        for (String member : got) {
            Checks.due("is in the document: " + member, due.contains(member), true);
        }
    }

    private static void hidden(Set<String> due) {
        Checks.due("public and final", RuleCrypts.class.getModifiers(), Modifier.PUBLIC | Modifier.FINAL);
        for (Field field : RuleCrypts.class.getDeclaredFields()) {
            Checks.due("private: " + field, Modifier.isPrivate(field.getModifiers()), true);
        }
        String face = String.join("\n", due);
        for (Class<?> inside : RuleCrypts.class.getDeclaredClasses()) {
            boolean open = Modifier.isPublic(inside.getModifiers()) || Modifier.isProtected(inside.getModifiers());
            Checks.due("not open: " + inside, open, false);
            Checks.due("static: " + inside, Modifier.isStatic(inside.getModifiers()), true);
            noNameOfTheFace(inside, face);
            Checks.due("twenty fields at most: " + inside, inside.getDeclaredFields().length <= 20, true);
        }
        noNameOfTheFace(RuleCrypts.class, face);
        Checks.due("twelve classes at most", RuleCrypts.class.getDeclaredClasses().length < 12, true);
    }

    private static void noNameOfTheFace(Class<?> type, String face) {
        for (Method method : type.getDeclaredMethods()) {
            boolean named = face.contains(" " + method.getName() + "(");
            boolean mayBe = type == RuleCrypts.class && Modifier.isPublic(method.getModifiers());
            Checks.due("has a name of its own: " + method, named && !mayBe, false);
            Checks.due("seven parameters at most: " + method, method.getParameterCount() <= 7, true);
        }
    }

    private static void source(String text) {
        String[] ruledOut = {"->", "::", "finally", "synchronized", "assert ", "System.out", "Exact(", "static {",
            "package ", " while (true)", "hashCode", "NullPointer", "ArrayIndexOutOf", "ClassCast", "NegativeArray",
            "ArrayStore", "catch (Exception", "Throwable"};
        for (String words : ruledOut) {
            Checks.due("the file has \"" + words + "\"", text.contains(words), false);
        }
        for (String line : text.split("\n")) {
            if (line.startsWith("import ")) {
                Checks.due(line, line.matches("import java\\.util\\.(Arrays|ArrayList|List|Iterator"
                        + "|NoSuchElementException);"), true);
            }
            Checks.due("a long line: " + line, line.length() > 120, false);
        }
        String[] parts = {"---- packs", "---- days and runs",
            "---- rules and packs as they are; nothing from here on changes anything", "---- dungeons",
            "---- runs as they are"};
        int at = 0;
        for (String part : parts) {
            at = text.indexOf("// " + part + "\n", at) + 1;
            Checks.due("the interface says, in its place: " + part, at > 0, true);
        }
    }
}
