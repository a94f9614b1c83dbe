import java.lang.reflect.Constructor;
import java.lang.reflect.Field;
import java.lang.reflect.Method;
import java.lang.reflect.Modifier;
import java.util.Arrays;
import java.util.Set;
import java.util.TreeSet;
import java.util.stream.Collectors;

/** The public face: just the document's constant, constructor and methods. */
public final class FaceTest {
    private static final String[] FACE = {
        "int show(int,int) IndexOutOfBoundsException,IllegalArgumentException",
        "int dot(int) IndexOutOfBoundsException",
        "int burn(int,int) IndexOutOfBoundsException",
        "int cut(int) IndexOutOfBoundsException",
        "int time(int,int) IndexOutOfBoundsException,IllegalArgumentException",
        "int balance(int) IllegalArgumentException,IllegalStateException",
        "int set(int,int) IndexOutOfBoundsException,IllegalArgumentException",
        "int pass(int) IllegalArgumentException,IllegalStateException",
        "int append(int) IllegalArgumentException,IllegalStateException",
        "int clearBuffer() ",
        "int firstError() ",
        "int load() IllegalArgumentException",
        "int write() ",
        "int keep(int) IllegalArgumentException",
        "int goBack(int) IllegalArgumentException,IllegalStateException",
        "int undo() IllegalStateException",
        "int slotOf(int,int) IndexOutOfBoundsException,IllegalArgumentException",
        "int segmentOf(int,int,int) IndexOutOfBoundsException,IllegalArgumentException",
        "int count(int) IllegalArgumentException",
        "int setting(int) IndexOutOfBoundsException",
        "int couldBe(int,int) IndexOutOfBoundsException,IllegalArgumentException",
        "int ifTimed(int,int) IndexOutOfBoundsException,IllegalArgumentException",
        "int ifBalanced(int,int) IndexOutOfBoundsException,IllegalArgumentException",
        "int safest(int) IndexOutOfBoundsException",
        "double litShare() ",
        "float meanBrightness() ",
        "long digest() ",
    };

    private static String names(Class<?>[] types) {
        return Arrays.stream(types).map(Class::getSimpleName).collect(Collectors.joining(","));
    }

    private static void methods() {
        Set<String> face = new TreeSet<>();
        Set<String> open = new TreeSet<>();
        Set<String> closed = new TreeSet<>();
        for (Method m : LitDigits.class.getDeclaredMethods()) {
            if (m.isSynthetic()) {
                continue;
            }
            if (Modifier.isPrivate(m.getModifiers())) {
                closed.add(m.getName());
            } else {
                open.add(m.getName());
                boolean plain = Modifier.isPublic(m.getModifiers()) && !Modifier.isStatic(m.getModifiers());
                face.add((plain ? "" : "not plainly public: ") + m.getReturnType().getSimpleName() + " " + m.getName()
                    + "(" + names(m.getParameterTypes()) + ") " + names(m.getExceptionTypes()));
            }
        }
        Set<String> due = new TreeSet<>(Arrays.asList(FACE));
        if (!face.equals(due)) {
            Check.report("the face is " + face + ", due is " + due);
        }
        for (Class<?> inside : LitDigits.class.getDeclaredClasses()) {
            for (Method m : inside.getDeclaredMethods()) {
                closed.add(m.getName());
            }
            int modifiers = inside.getModifiers();
            Check.due(inside + " is static", Modifier.isStatic(modifiers) ? 1 : 0, 1);
            Check.due(inside + " is public", Modifier.isPublic(modifiers) || Modifier.isProtected(modifiers) ? 1 : 0, 0);
        }
        closed.retainAll(open);
        if (!closed.isEmpty()) {
            Check.report("methods that are not of the face bear its names: " + closed);
        }
    }

    private static void fieldsAndConstructors() {
        int open = 0;
        for (Field f : LitDigits.class.getDeclaredFields()) {
            if (Modifier.isStatic(f.getModifiers()) && !Modifier.isFinal(f.getModifiers())) {
                Check.report(f + " is static and not final");
            }
            if (!Modifier.isPrivate(f.getModifiers())) {
                open++;
            }
        }
        Check.due("fields that are not private", open, 1);
        Constructor<?>[] constructors = LitDigits.class.getDeclaredConstructors();
        Check.due("constructors", constructors.length, 1);
        Check.due("its parameters", constructors[0].getParameterCount(), 0);
        Check.due("it is public", Modifier.isPublic(constructors[0].getModifiers()) ? 1 : 0, 1);
        Check.due("the class is public and final",
            LitDigits.class.getModifiers() & (Modifier.PUBLIC | Modifier.FINAL), Modifier.PUBLIC | Modifier.FINAL);
        Check.due("NONE", LitDigits.NONE, -1);
    }

    public static void main(String[] args) {
        methods();
        fieldsAndConstructors();
        Check.end();
    }
}
