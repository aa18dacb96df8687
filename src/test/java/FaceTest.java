import java.lang.reflect.Constructor;
import java.lang.reflect.Field;
import java.lang.reflect.Method;
import java.lang.reflect.Modifier;
import java.util.Arrays;
import java.util.List;
import java.util.Set;
import java.util.TreeSet;

/** The public face: what the document lists, and nothing that can be seen beside it. */
public final class FaceTest {
    private static final List<String> FACE = List.of(
            "attach(int, int) void IndexOutOfBoundsException IllegalArgumentException",
            "count(int, int) int",
            "deliver(int, int) int IndexOutOfBoundsException",
            "inject(int, int, int) int IndexOutOfBoundsException IllegalArgumentException",
            "knows(int, int) int",
            "label(int, int, int, int) int",
            "lay(int, int, int, int) void IndexOutOfBoundsException IllegalArgumentException",
            "packet(int, int) int",
            "queue(int, int, int) int",
            "run(int) int IllegalArgumentException",
            "spoil(int, int, int) boolean IndexOutOfBoundsException",
            "turn(int, boolean) void IndexOutOfBoundsException IllegalArgumentException",
            "way(int, int, int) int");

    public static void main(String[] args) {
        Due.answer("NONE", LabelNet.NONE, -1);
        Due.answer("the class's modifiers", LabelNet.class.getModifiers(), Modifier.PUBLIC | Modifier.FINAL);
        methods();
        others();
        Due.end();
    }

    private static void methods() {
        Set<String> open = new TreeSet<>();
        Set<String> hidden = new TreeSet<>();
        for (Method m : LabelNet.class.getDeclaredMethods()) {
            if (Modifier.isPrivate(m.getModifiers())) {
                hidden.add(m.getName());
            } else {
                open.add(told(m));
                Due.answer(m.getName() + " is public", Modifier.isPublic(m.getModifiers()), true);
            }
        }
        if (!open.equals(new TreeSet<>(FACE))) {
            Due.tell("the methods are " + open + ", due are " + FACE);
        }
        for (String line : FACE) {
            String name = line.substring(0, line.indexOf('('));
            Due.answer("a private method is named " + name, hidden.contains(name), false);
        }
    }

    private static String told(Method m) {
        String parameters = Arrays.toString(m.getParameterTypes());
        StringBuilder line = new StringBuilder(m.getName());
        line.append('(').append(parameters, 1, parameters.length() - 1).append(") ").append(m.getReturnType());
        for (Class<?> thrown : m.getExceptionTypes()) {
            line.append(' ').append(thrown.getSimpleName());
        }
        return line.toString();
    }

    private static void others() {
        Constructor<?>[] made = LabelNet.class.getDeclaredConstructors();
        Due.answer("constructors", made.length, 1);
        Due.answer("the constructor is public", Modifier.isPublic(made[0].getModifiers()), true);
        Due.answer("the constructor takes an int", Arrays.equals(made[0].getParameterTypes(), new Class<?>[] {int.class}), true);
        for (Field f : LabelNet.class.getDeclaredFields()) {
            boolean none = f.getName().equals("NONE");
            Due.answer(f.getName() + " is private", Modifier.isPrivate(f.getModifiers()), !none);
        }
        for (Class<?> inside : LabelNet.class.getDeclaredClasses()) {
            Due.answer(inside.getName() + " is static", Modifier.isStatic(inside.getModifiers()), true);
            Due.answer(inside.getName() + " is public", Modifier.isPublic(inside.getModifiers()), false);
        }
    }
}
