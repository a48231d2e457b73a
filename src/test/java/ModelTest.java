import java.util.ArrayList;
import java.util.List;
import java.util.Random;
import java.util.Set;
import java.util.TreeSet;

/** Random runs of calls from fixed seeds; each answer is compared with that of SceneModel. */
public final class ModelTest {
    private static final int RUNS = 3000;
    private static final int CALLS = 512;
    private static final int[] EDGES = {
        Integer.MIN_VALUE, -2, -1, 0, 1, 19, 20, 39, 40, 59, 60, 5000, 5001, 99_999, 100_000, Integer.MAX_VALUE
    };

    /** The kind in which few persons change sectors so often that more than 400 rows of leaders are left. */
    private static final int MANY_ROWS = 1;
    /** The kind that comes to the last second. */
    private static final int LONG_TIME = 4;

    private static final String[] NAMES = {
        "person", "unit", "arrive", "leave", "go", "place", "split", "join", "offer", "take", "task",
        "answer", "span", "tick", "led", "sectorAt", "personAt", "unitAt", "taskAt", "passed", "clock"
    };
    /** How often each call is made in a run of each kind. */
    private static final int[][] KINDS = {
        {2, 2, 8, 4, 12, 6, 3, 2, 8, 8, 3, 4, 3, 6, 12, 24, 8, 4, 6, 5, 1},
        {0, 0, 3, 1, 90, 0, 0, 0, 2, 2, 0, 0, 0, 6, 14, 0, 0, 0, 0, 0, 0},
        {12, 8, 8, 1, 8, 8, 12, 1, 6, 6, 16, 6, 3, 3, 3, 10, 6, 4, 8, 6, 1},
        {1, 0, 10, 6, 10, 0, 2, 1, 30, 25, 0, 0, 0, 5, 5, 25, 5, 0, 0, 0, 0},
        {0, 0, 2, 1, 2, 0, 1, 1, 1, 1, 8, 4, 1, 60, 10, 2, 1, 0, 12, 0, 4},
    };
    /** Refusals that the document names; each of them must have been seen in some run. */
    private static final String[] REFUSALS = {
        "person IndexOutOfBoundsException", "person UnsupportedOperationException",
        "unit UnsupportedOperationException",
        "arrive IllegalArgumentException", "arrive IllegalStateException",
        "leave IllegalArgumentException", "leave IllegalStateException",
        "go IllegalArgumentException", "go IllegalStateException",
        "place IllegalArgumentException", "place IllegalStateException",
        "split IllegalArgumentException", "split IllegalStateException", "split UnsupportedOperationException",
        "join IllegalArgumentException", "join IllegalStateException",
        "offer IllegalArgumentException", "offer IllegalStateException",
        "take IllegalArgumentException", "take IllegalStateException",
        "task IllegalArgumentException", "task IndexOutOfBoundsException", "task IllegalStateException",
        "task UnsupportedOperationException",
        "answer IllegalArgumentException", "answer IllegalStateException",
        "span IndexOutOfBoundsException", "tick IndexOutOfBoundsException",
        "led IllegalArgumentException", "led IndexOutOfBoundsException", "led UnsupportedOperationException",
        "sectorAt IllegalArgumentException", "personAt IllegalArgumentException",
        "unitAt IllegalArgumentException", "taskAt IllegalArgumentException",
        "passed IndexOutOfBoundsException",
    };

    private final Random random;
    private final CommandTree tree = new CommandTree();
    private final SceneModel model = new SceneModel();
    private final List<String> told = new ArrayList<>();
    private final Set<String> seen;
    private final int kind;

    private ModelTest(int seed, Set<String> seen) {
        this.random = new Random(seed);
        this.kind = seed % KINDS.length;
        this.seen = seen;
    }

    public static void main(String[] args) {
        Set<String> seen = new TreeSet<>();
        int wrong = 0;
        for (int seed = 0; seed < RUNS; seed++) {
            if (!new ModelTest(seed, seen).run(seed)) {
                wrong++;
            }
        }
        for (String refusal : REFUSALS) {
            if (!seen.contains(refusal)) {
                System.out.println("ModelTest: never seen: " + refusal);
                wrong++;
            }
        }
        System.out.println("ModelTest: " + RUNS + " runs, " + wrong + " wrong");
        if (wrong != 0) {
            System.exit(1);
        }
    }

    private boolean run(int seed) {
        boolean right = setUp();
        while (right && told.size() < CALLS) {
            right = compareRandomCall();
        }
        if (!right) {
            System.out.println("ModelTest: seed " + seed + ", call " + told.size() + ": "
                    + told.get(told.size() - 1));
        }
        return right;
    }

    private boolean setUp() {
        boolean right = true;
        int persons = 1 + random.nextInt(kind == MANY_ROWS ? 2 : 6);
        for (int i = 0; i < persons; i++) {
            right = right && compare("person", random.nextInt(4), 0);
            right = right && compare("arrive", i, 0);
        }
        int splits = kind == MANY_ROWS ? 12 : persons;
        for (int i = 0; i < splits; i++) {
            right = right && compare("split", random.nextInt(model.sectorCount()), 0);
        }
        return right;
    }

    private boolean compareRandomCall() {
        String name = randomName();
        return compare(name, firstArgument(name), secondArgument(name));
    }

    private boolean compare(String name, int a, int b) {
        String due = model.answerTo(name, a, b);
        String got = answerOfTree(name, a, b);
        seen.add(name + " " + due);
        told.add(name + "(" + a + ", " + b + ") answered " + got + ", due is " + due);
        return due.equals(got);
    }

    private String randomName() {
        int[] weights = KINDS[kind];
        int sum = 0;
        for (int weight : weights) {
            sum += weight;
        }
        int at = random.nextInt(sum);
        int i = 0;
        while (at >= weights[i]) {
            at -= weights[i];
            i++;
        }
        return NAMES[i];
    }

    private int firstArgument(String name) {
        if (random.nextInt(60) == 0) {
            return EDGES[random.nextInt(EDGES.length)];
        }
        switch (name) {
            case "person": return random.nextInt(4);
            case "arrive": case "leave": case "go": case "personAt": return knownOf(model.personCount());
            case "place": case "unitAt": return knownOf(model.unitCount());
            case "answer": case "taskAt": return knownOf(model.taskCount());
            case "span": return 1 + random.nextInt(4);
            case "tick": return kind == LONG_TIME ? 1 + random.nextInt(5000) : 1 + random.nextInt(3);
            case "passed": return random.nextInt(3);
            default: return knownOf(model.sectorCount());
        }
    }

    private int secondArgument(String name) {
        if (random.nextInt(60) == 0) {
            return EDGES[random.nextInt(EDGES.length)];
        }
        switch (name) {
            case "offer": case "take": return knownOf(model.personCount());
            case "go": case "join": return knownOf(model.sectorCount());
            case "place": return knownOf(model.sectorCount() + 1) - 1;
            case "task": return model.second() + random.nextInt(kind == LONG_TIME ? 9000 : 6);
            case "answer": return random.nextInt(2);
            case "led": return random.nextInt(model.second() + 1);
            case "sectorAt": return random.nextInt(8);
            case "personAt": case "taskAt": return random.nextInt(3);
            default: return 0;
        }
    }

    private int knownOf(int count) {
        return count == 0 || random.nextInt(80) == 0 ? count : random.nextInt(count);
    }

    private String answerOfTree(String name, int a, int b) {
        try {
            return performOnTree(name, a, b);
        } catch (RuntimeException e) {
            return e.getClass().getSimpleName();
        }
    }

    private String performOnTree(String name, int a, int b) {
        switch (name) {
            case "person": return "" + tree.person(a);
            case "unit": return "" + tree.unit();
            case "arrive": tree.arrive(a); return "ok";
            case "leave": tree.leave(a); return "ok";
            case "go": tree.go(a, b); return "ok";
            case "place": tree.place(a, b); return "ok";
            case "split": return "" + tree.split(a);
            case "join": tree.join(a, b); return "ok";
            case "offer": tree.offer(a, b); return "ok";
            case "take": tree.take(a, b); return "ok";
            case "task": return "" + tree.task(a, b);
            case "answer": tree.answer(a, b == 1); return "ok";
            case "span": return "" + tree.span(a);
            case "tick": return "" + tree.tick(a);
            case "led": return "" + tree.led(a, b);
            case "sectorAt": return "" + tree.sectorAt(a, b);
            case "personAt": return "" + tree.personAt(a, b);
            case "unitAt": return "" + tree.unitAt(a);
            case "taskAt": return "" + tree.taskAt(a, b);
            case "passed": return "" + tree.passed(a);
            case "clock": return "" + tree.clock();
            default: throw new AssertionError(name);
        }
    }
}
