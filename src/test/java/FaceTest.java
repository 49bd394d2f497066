import java.lang.reflect.Constructor;
import java.lang.reflect.Field;
import java.lang.reflect.Method;
import java.lang.reflect.Modifier;
import java.util.Arrays;
import java.util.NoSuchElementException;
import java.util.TreeSet;

/**
 * 'The public face' of the document, promises 1 to 43: each member is there just so, and there is
 * no other one that is not private (LANGUAGE.md, 1).
 */
public final class FaceTest {
    private static final String FACE = "int feed(int, int, int, int, int);boolean end(int);"
            + "int ground();int fault();int cell(int, int, int) throws;int night(int);"
            + "int sky(int, int, int);boolean begin(int);int on(int);"
            + "int is(int, int, int) throws;int now(int);int plan();int go(int);int went(int);"
            + "int much(int, int, int, int);int where(int, int, int);int begins(int, int, int);"
            + "int gone(int, int, int);int wet(int, int, int);int spell(int, int, int);"
            + "int sick(int, int);int frost(int, int, int);int slugs(int, int, int, int);"
            + "int walk(int, int, int, int);int unlike(int, int);int bench(int, int);int lawn();"
            + "int clouded(int);int came(int, int, int, int);int cameAt(int);"
            + "int roof(int, int, int);int driest(int, int);int catcher(int, int, int);"
            + "int story(int, int, int, int, int);int part(int, int, int, int, int);"
            + "int tries(int, int);int hay(int, int);int drawn(int, int, int, int, int);"
            + "int drawnBy(int);boolean image(int);boolean restore(int);int count(int)";

    private FaceTest() {
    }

    public static void main(String[] args) {
        theClass();
        methods();
        fields();
        classesInside();
        Check.finish("FaceTest");
    }

    private static void theClass() {
        int sort = SixDew.class.getModifiers();
        Check.due("SixDew is public", Modifier.isPublic(sort), true);
        Check.due("SixDew is final", Modifier.isFinal(sort), true);
        Check.same("what it extends", SixDew.class.getSuperclass().getName(), "java.lang.Object");
        Check.due("what it implements", SixDew.class.getInterfaces().length, 0);
        Constructor<?>[] made = SixDew.class.getDeclaredConstructors();
        Check.due("constructors", made.length, 1);
        Check.due("what the constructor takes", made[0].getParameterCount(), 0);
        Check.due("the constructor is public", Modifier.isPublic(made[0].getModifiers()), true);
        Check.due("what the constructor throws", made[0].getExceptionTypes().length, 0);
    }

    private static void methods() {
        TreeSet<String> told = new TreeSet<>(Arrays.asList(FACE.split(";")));
        Check.due("methods told", told.size(), 42);
        TreeSet<String> there = new TreeSet<>();
        TreeSet<String> hidden = new TreeSet<>();
        for (Method m : SixDew.class.getDeclaredMethods()) {
            if (Modifier.isPrivate(m.getModifiers())) {
                hidden.add(m.getName());
            } else {
                there.add(told(m));
                Check.due(m.getName() + " is public", Modifier.isPublic(m.getModifiers()), true);
                Check.due(m.getName() + " is static", Modifier.isStatic(m.getModifiers()), false);
            }
        }
        Check.same("methods", there.toString(), told.toString());
        for (Method m : SixDew.class.getMethods()) {
            Check.due("a private one named " + m.getName(), hidden.contains(m.getName()), false);
        }
    }

    private static String told(Method m) {
        StringBuilder s = new StringBuilder(m.getReturnType().getName()).append(' ');
        s.append(m.getName()).append('(');
        Class<?>[] takes = m.getParameterTypes();
        for (int i = 0; i < takes.length; i++) {
            s.append(i == 0 ? "" : ", ").append(takes[i].getName());
        }
        s.append(')');
        for (Class<?> thrown : m.getExceptionTypes()) {
            s.append(thrown == NoSuchElementException.class ? " throws" : " " + thrown.getName());
        }
        return s.toString();
    }

    private static void fields() {
        Check.due("NONE", SixDew.NONE, -1);
        for (Field f : SixDew.class.getDeclaredFields()) {
            boolean none = f.getName().equals("NONE");
            int sort = f.getModifiers();
            Check.due(f.getName() + " is public", Modifier.isPublic(sort), none);
            Check.due(f.getName() + " is private", Modifier.isPrivate(sort), !none);
            boolean told = !Modifier.isStatic(sort) || Modifier.isFinal(sort);
            Check.due(f.getName() + " is final, if it is static", told, true);
            if (none) {
                Check.same("the type of NONE", f.getType().getName(), "int");
                Check.due("NONE is static", Modifier.isStatic(sort), true);
            }
        }
    }

    private static void classesInside() {
        for (Class<?> inside : SixDew.class.getDeclaredClasses()) {
            int sort = inside.getModifiers();
            Check.due(inside.getName() + " is static", Modifier.isStatic(sort), true);
            boolean open = Modifier.isPublic(sort) || Modifier.isProtected(sort);
            Check.due(inside.getName() + " is open", open, false);
        }
    }
}
