import java.lang.reflect.Constructor;
import java.lang.reflect.Field;
import java.lang.reflect.Method;
import java.lang.reflect.Modifier;
import java.util.ArrayList;
import java.util.Arrays;
import java.util.List;
import java.util.TreeSet;

/** The public face is the document's, and nothing else can be seen from outside. */
public final class FaceTest {
    private static final String[] FACE = {
        "int person(int) IndexOutOfBoundsException UnsupportedOperationException",
        "int unit() UnsupportedOperationException",
        "void arrive(int) IllegalArgumentException IllegalStateException",
        "void leave(int) IllegalArgumentException IllegalStateException",
        "void go(int,int) IllegalArgumentException IllegalStateException",
        "void place(int,int) IllegalArgumentException IllegalStateException",
        "int split(int) IllegalArgumentException IllegalStateException UnsupportedOperationException",
        "void join(int,int) IllegalArgumentException IllegalStateException",
        "void offer(int,int) IllegalArgumentException IllegalStateException",
        "void take(int,int) IllegalArgumentException IllegalStateException",
        "int task(int,int) IllegalArgumentException IndexOutOfBoundsException IllegalStateException"
                + " UnsupportedOperationException",
        "void answer(int,boolean) IllegalArgumentException IllegalStateException",
        "int span(int) IndexOutOfBoundsException",
        "int tick(int) IndexOutOfBoundsException",
        "int led(int,int) IllegalArgumentException IndexOutOfBoundsException UnsupportedOperationException",
        "int sectorAt(int,int) IllegalArgumentException",
        "int personAt(int,int) IllegalArgumentException",
        "int unitAt(int) IllegalArgumentException",
        "int taskAt(int,int) IllegalArgumentException",
        "int passed(int) IndexOutOfBoundsException",
        "int clock()",
    };

    public static void main(String[] args) {
        Expect expect = new Expect("FaceTest");
        expect.promise("the face");
        expect.same("public final", Modifier.toString(CommandTree.class.getModifiers()));
        expect.same(new TreeSet<>(Arrays.asList(FACE)).toString(), visibleMethods().toString());
        expect.same("[public CommandTree()]", constructors().toString());
        expect.same("[]", visibleFields().toString());
        expect.end();
    }

    private static TreeSet<String> visibleMethods() {
        TreeSet<String> found = new TreeSet<>();
        for (Method method : CommandTree.class.getDeclaredMethods()) {
            if (Modifier.isPrivate(method.getModifiers())) {
                continue;
            }
            StringBuilder text = new StringBuilder();
            text.append(method.getReturnType()).append(' ').append(method.getName()).append('(');
            text.append(names(method.getParameterTypes(), ",")).append(')');
            if (method.getExceptionTypes().length > 0) {
                text.append(' ').append(names(method.getExceptionTypes(), " "));
            }
            found.add(text.toString());
        }
        return found;
    }

    private static List<String> constructors() {
        List<String> found = new ArrayList<>();
        for (Constructor<?> constructor : CommandTree.class.getDeclaredConstructors()) {
            found.add(constructor.toString());
        }
        return found;
    }

    private static List<String> visibleFields() {
        List<String> found = new ArrayList<>();
        for (Field field : CommandTree.class.getDeclaredFields()) {
            if (!Modifier.isPrivate(field.getModifiers())) {
                found.add(field.getName());
            }
        }
        return found;
    }

    private static String names(Class<?>[] types, String between) {
        List<String> found = new ArrayList<>();
        for (Class<?> type : types) {
            found.add(type.getSimpleName());
        }
        return String.join(between, found);
    }
}
