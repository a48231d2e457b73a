import java.io.IOException;
import java.lang.reflect.Method;
import java.lang.reflect.Modifier;
import java.nio.file.Files;
import java.nio.file.Path;
import java.util.List;
import java.util.TreeSet;
import java.util.regex.Matcher;
import java.util.regex.Pattern;

/** README.md shows the class as it is: its example is run here, and its table names every call. */
public final class ReadmeTest {
    private static final Path README = Path.of("README.md");
    private static final Path THIS_FILE = Path.of("src/test/java/ReadmeTest.java");
    private static final Pattern ANSWER = Pattern.compile("(.*;) *// (-?\\d+)(:.*)?");
    private static final Pattern TABLE_ROW = Pattern.compile("\\| `(\\w+)\\((.*)\\)` \\|.*");

    private static final Expect expect = new Expect("ReadmeTest");

    public static void main(String[] args) throws IOException {
        expect.promise("the example's answers");
        runExample();
        expect.promise("the example is the one that is run here");
        compareExample(Files.readAllLines(README), Files.readString(THIS_FILE));
        expect.promise("the table");
        expect.same(callsOfTheFace().toString(), callsOfTheTable(Files.readAllLines(README)).toString());
        expect.end();
    }

    private static void runExample() {
        CommandTree scene = new CommandTree();
        int chief = scene.person(7);
        due(chief, 0);
        int second = scene.person(5);
        due(second, 1);
        int third = scene.person(3);
        due(third, 2);
        scene.arrive(chief);
        scene.arrive(second);
        scene.arrive(third);
        int north = scene.split(0);
        due(north, 1);
        scene.go(second, north);
        int engine = scene.unit();
        due(engine, 0);
        scene.place(engine, north);
        int search = scene.task(north, 600);
        due(search, 0);
        due(scene.tick(601), 1);
        scene.answer(search, true);
        due(scene.taskAt(search, 1), 1);
        scene.offer(0, third);
        scene.take(0, third);
        scene.leave(second);
        due(scene.sectorAt(north, 1), -1);
        scene.join(north, 0);
        due(scene.unitAt(engine), 0);
        due(scene.led(0, 600), 0);
        due(scene.led(0, 601), 2);
        due(scene.led(north, 600), 1);
    }

    private static void due(int got, int due) {
        expect.same(Integer.toString(due), Integer.toString(got));
    }

    /** Each line of the example stands in this file, behind the one before it, with the same answer. */
    private static void compareExample(List<String> readme, String source) {
        int from = source.indexOf("void runExample()");
        boolean inExample = false;
        for (String line : readme) {
            if (line.startsWith("```")) {
                inExample = line.equals("```java");
            } else if (inExample && !line.isBlank()) {
                String wanted = sourceOf(line);
                int at = source.indexOf(wanted, from);
                expect.same("in its place: " + wanted, at < 0 ? "not here" : "in its place: " + wanted);
                from = at < 0 ? from : at + wanted.length();
            }
        }
    }

    private static String sourceOf(String line) {
        Matcher told = ANSWER.matcher(line);
        if (!told.matches()) {
            return line.replaceFirst(" *//.*", "") + "\n";
        }
        String call = told.group(1);
        if (!call.startsWith("int ")) {
            return "due(" + call.substring(0, call.length() - 1) + ", " + told.group(2) + ");\n";
        }
        String name = call.substring("int ".length(), call.indexOf(" ="));
        return call + "\n        due(" + name + ", " + told.group(2) + ");\n";
    }

    private static TreeSet<String> callsOfTheFace() {
        TreeSet<String> calls = new TreeSet<>();
        for (Method method : CommandTree.class.getDeclaredMethods()) {
            if (Modifier.isPublic(method.getModifiers())) {
                calls.add(method.getName() + " " + method.getParameterCount());
            }
        }
        return calls;
    }

    private static TreeSet<String> callsOfTheTable(List<String> readme) {
        TreeSet<String> calls = new TreeSet<>();
        for (String line : readme) {
            Matcher row = TABLE_ROW.matcher(line);
            if (row.matches()) {
                String parameters = row.group(2);
                int count = parameters.isEmpty() ? 0 : parameters.split(",").length;
                calls.add(row.group(1) + " " + count);
            }
        }
        return calls;
    }
}
