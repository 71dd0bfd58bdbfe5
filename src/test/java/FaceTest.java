import java.lang.reflect.Constructor;
import java.lang.reflect.Field;
import java.lang.reflect.Method;
import java.lang.reflect.Modifier;
import java.util.Arrays;
import java.util.Set;
import java.util.TreeSet;
import java.util.stream.Collectors;

/** The face of the class, as the document and rule 1 of LANGUAGE.md want it. */
final class FaceTest {
    private static final String[] FACE = {
        "append(int)IllegalArgumentException,IllegalStateException",
        "clearText()",
        "errorPosition()",
        "load()IllegalStateException",
        "about(int)IllegalArgumentException",
        "rulerOf(int,int)IndexOutOfBoundsException,IllegalArgumentException",
        "isMarked(int,int)IndexOutOfBoundsException",
        "span(int,int,int)IndexOutOfBoundsException,IllegalArgumentException",
        "gap(int,int)IndexOutOfBoundsException,IllegalArgumentException",
        "ruler(int)IllegalArgumentException,IllegalStateException",
        "mark(int,int,boolean)IndexOutOfBoundsException,IllegalStateException",
        "cut(int,int)IndexOutOfBoundsException,IllegalArgumentException",
        "turn(int)IndexOutOfBoundsException",
        "set(int,int)IllegalArgumentException",
        "undo()IllegalStateException",
        "fewest(int,int)IllegalArgumentException",
        "laying(int,int,int)IllegalArgumentException",
        "why(int)IllegalArgumentException",
        "bestMark(int,int)IndexOutOfBoundsException,IllegalArgumentException",
        "needless(int)IndexOutOfBoundsException",
        "twin(int,int,boolean)IndexOutOfBoundsException",
        "layings()",
        "runScript(int,long)IllegalArgumentException",
        "simulate(long,int)IllegalArgumentException",
        "save(int)IndexOutOfBoundsException",
        "restore(int)IndexOutOfBoundsException,IllegalStateException",
    };

    private FaceTest() {
    }

    static void face_methods(Checks c) {
        Set<String> found = new TreeSet<>();
        Set<String> names = new TreeSet<>();
        for (Method m : OddRulers.class.getDeclaredMethods()) {
            if (Modifier.isPublic(m.getModifiers())) {
                found.add(m.getName() + "(" + simple(m.getParameterTypes()) + ")" + simple(m.getExceptionTypes()));
                names.add(m.getName());
                c.due(m.getName() + " answers an int", m.getReturnType(), int.class);
                c.due(m.getName() + " is static", Modifier.isStatic(m.getModifiers()), false);
            }
        }
        c.due("public methods", found, new TreeSet<>(Arrays.asList(FACE)));
        for (Method m : OddRulers.class.getDeclaredMethods()) {
            if (!Modifier.isPublic(m.getModifiers())) {
                c.due(m.getName() + " is private", Modifier.isPrivate(m.getModifiers()), true);
                c.due(m.getName() + " has a public name", names.contains(m.getName()), false);
            }
        }
    }

    static void face_rest(Checks c) {
        c.due("final", Modifier.isFinal(OddRulers.class.getModifiers()), true);
        c.due("public", Modifier.isPublic(OddRulers.class.getModifiers()), true);
        Constructor<?>[] constructors = OddRulers.class.getDeclaredConstructors();
        c.due("constructors", constructors.length, 1);
        c.due("its parameters", constructors[0].getParameterCount(), 0);
        c.due("it is public", Modifier.isPublic(constructors[0].getModifiers()), true);
        for (Field f : OddRulers.class.getDeclaredFields()) {
            boolean constant = f.getName().equals("NONE");
            c.due(f.getName(), Modifier.isPublic(f.getModifiers()), constant);
            c.due(f.getName() + " is private or NONE", constant || Modifier.isPrivate(f.getModifiers()), true);
            c.due(f.getName() + " static and not final",
                    Modifier.isStatic(f.getModifiers()) && !Modifier.isFinal(f.getModifiers()), false);
        }
        c.due("NONE", OddRulers.NONE, -1);
        for (Class<?> inner : OddRulers.class.getDeclaredClasses()) {
            int m = inner.getModifiers();
            c.due(inner.getName() + " is static", Modifier.isStatic(m), true);
            c.due(inner.getName() + " is public or protected", Modifier.isPublic(m) || Modifier.isProtected(m), false);
        }
    }

    private static String simple(Class<?>[] types) {
        return Arrays.stream(types).map(Class::getSimpleName).collect(Collectors.joining(","));
    }
}
