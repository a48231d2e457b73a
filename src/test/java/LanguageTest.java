import java.io.IOException;
import java.lang.reflect.Field;
import java.lang.reflect.Method;
import java.lang.reflect.Modifier;
import java.nio.file.Files;
import java.nio.file.Path;
import java.util.ArrayList;
import java.util.Arrays;
import java.util.List;
import java.util.TreeSet;
import java.util.regex.Matcher;
import java.util.regex.Pattern;

/** The rules of LANGUAGE.md that can be seen in the class's text or in its compiled form. */
public final class LanguageTest {
    private static final Path PROGRAM = Path.of("src/main/java/CommandTree.java");
    private static final int LONGEST_METHOD = 60;
    private static final int MOST_PARAMETERS = 7;
    private static final int MOST_CLASSES = 12;
    private static final int MOST_FIELDS = 20;

    /** What the class needs of the library; LANGUAGE.md, rule 4, allows a little more. */
    private static final List<String> IMPORTS = List.of("java.util.Arrays");
    private static final List<String> LIBRARY_CALLS = List.of("Arrays.fill");

    private static final List<String> WORDS_RULED_OUT = List.of(
            "package", "protected", "synchronized", "assert", "finally", "try", "catch", "yield", "var",
            "System", "Thread", "Random", "Object", "getMessage", "equals", "hashCode", "toString");

    private static final Pattern WORD = Pattern.compile("[A-Za-z_]\\w*");
    private static final Pattern IMPORT = Pattern.compile("import (?:static )?([\\w.*]+);");
    private static final Pattern LIBRARY_CALL = Pattern.compile("\\b(?:Arrays|Math|Integer|Long|List)\\.\\w+");
    private static final Pattern METHOD_HEAD = Pattern.compile("^( {4}| {8})[a-zA-Z][\\w ]*\\([^;=]*$");

    private static final Expect expect = new Expect("LanguageTest");

    public static void main(String[] args) throws IOException {
        String text = Files.readString(PROGRAM);
        String code = withoutCommentsAndTexts(text);
        expect.promise("rule 1, classes inside and private methods' names");
        classesInside();
        privateNames();
        expect.promise("rules 2, 6, 13, words and signs");
        wordsRuledOut(code);
        signsRuledOut(code);
        expect.promise("rule 4, the library");
        expect.same(IMPORTS.toString(), allOf(IMPORT, code, 1).toString());
        expect.same(LIBRARY_CALLS.toString(), allOf(LIBRARY_CALL, code.replaceAll("import .*", ""), 0).toString());
        expect.promise("rule 5, static fields");
        staticFields();
        expect.promise("rule 6, a throw makes the exception with a written text");
        throwsAreWritten(text);
        expect.promise("rule 11, sizes");
        sizes();
        methodsAreShort(text);
        expect.end();
    }

    private static void classesInside() {
        for (Class<?> inside : CommandTree.class.getDeclaredClasses()) {
            int flags = inside.getModifiers();
            boolean hidden = !Modifier.isPublic(flags) && !Modifier.isProtected(flags);
            expect.same(inside + " hidden, static", inside + (hidden && Modifier.isStatic(flags) ? " hidden, static" : ""));
        }
    }

    private static void privateNames() {
        TreeSet<String> face = new TreeSet<>();
        TreeSet<String> hidden = new TreeSet<>();
        for (Method method : CommandTree.class.getDeclaredMethods()) {
            (Modifier.isPublic(method.getModifiers()) ? face : hidden).add(method.getName());
        }
        hidden.retainAll(face);
        expect.same("[]", hidden.toString());
    }

    private static void wordsRuledOut(String code) {
        TreeSet<String> found = allOf(WORD, code, 0);
        found.retainAll(WORDS_RULED_OUT);
        expect.same("[]", found.toString());
    }

    private static void signsRuledOut(String code) {
        for (String sign : List.of("->", "::", "@")) {
            expect.same("no " + sign, (code.contains(sign) ? "a " : "no ") + sign);
        }
    }

    private static void staticFields() {
        for (Class<?> type : allClasses()) {
            for (Field field : type.getDeclaredFields()) {
                if (Modifier.isStatic(field.getModifiers())) {
                    boolean constant = Modifier.isFinal(field.getModifiers()) && field.getType() == int.class;
                    expect.same(field + " constant", field + (constant ? " constant" : ""));
                }
            }
        }
    }

    private static void throwsAreWritten(String text) {
        Pattern written = Pattern.compile("throw new (IllegalArgument|IndexOutOfBounds|IllegalState|UnsupportedOperation)"
                + "Exception\\(\"[^\"]*\"\\);");
        for (String line : text.split("\n")) {
            if (line.strip().startsWith("throw ")) {
                expect.same(line, written.matcher(line.strip()).matches() ? line : "another throw");
            }
        }
        expect.same("Latin", text.chars().allMatch(c -> c < 256) ? "Latin" : "characters above 255");
    }

    private static void sizes() {
        within("classes", allClasses().size(), MOST_CLASSES);
        for (Class<?> type : allClasses()) {
            int fields = 0;
            for (Field field : type.getDeclaredFields()) {
                fields += Modifier.isStatic(field.getModifiers()) ? 0 : 1;
            }
            within("fields of " + type.getName(), fields, MOST_FIELDS);
            for (Method method : type.getDeclaredMethods()) {
                within("parameters of " + method.getName(), method.getParameterCount(), MOST_PARAMETERS);
            }
        }
    }

    /** A method ends where a brace stands as far in as its head does. */
    private static void methodsAreShort(String text) {
        String[] lines = text.split("\n");
        for (int i = 0; i < lines.length; i++) {
            Matcher head = METHOD_HEAD.matcher(lines[i]);
            if (head.matches() && !lines[i].contains(" class ")) {
                int end = i;
                while (end < lines.length && !lines[end].equals(head.group(1) + "}")) {
                    end++;
                }
                within("lines of " + lines[i].strip(), end - i + 1, LONGEST_METHOD);
            }
        }
    }

    private static void within(String what, int size, int most) {
        expect.same(what + " within " + most, what + (size <= most ? " within " + most : " are " + size));
    }

    private static List<Class<?>> allClasses() {
        List<Class<?>> all = new ArrayList<>(Arrays.asList(CommandTree.class.getDeclaredClasses()));
        all.add(CommandTree.class);
        return all;
    }

    private static TreeSet<String> allOf(Pattern pattern, String code, int group) {
        TreeSet<String> found = new TreeSet<>();
        Matcher matcher = pattern.matcher(code);
        while (matcher.find()) {
            found.add(matcher.group(group));
        }
        return found;
    }

    private static String withoutCommentsAndTexts(String text) {
        return text.replaceAll("\"[^\"\n]*\"", "\"\"")
                .replaceAll("(?s)/\\*.*?\\*/", "")
                .replaceAll("//[^\n]*", "");
    }
}
