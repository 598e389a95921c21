import java.lang.reflect.Field;
import java.lang.reflect.Method;
import java.lang.reflect.Modifier;
import java.util.Arrays;
import java.util.List;
import java.util.TreeSet;

/** The face is that of the document, and no more. */
public final class FaceTest {
    private static final List<String> METHODS = List.of(
        "int lives(int,int)", "int set(int,int)", "int will(int,int,int,int)", "int had(int,int,int)", "int told(int,int)",
        "int burn(int)", "int type(long,int)", "int rules()", "int rule(int,int)", "int wills()", "int draw(long,int,int)",
        "int people(int,int,int)", "int count(int)", "long total(int,int)", "long share(int,int,int)",
        "int maker(int,int,int)", "int span(int,int,int)", "int smooth(int,int,int)", "int jump(int,int)",
        "long alone(int,int,int)", "int bounds(int,int,int)", "int heap(int,int,int)", "int beside(int,long,long)",
        "int fights()", "long fall(int,int,int)", "int image()", "int restore()", "int book(int,int,int,int)",
        "int crowds(int,int,int)", "int sheet(int,int,int)", "int drop(int)", "int item(int,int,int,int)",
        "int copy(int,int,int,int,int)");
    private static final List<String> CONSTANTS = List.of(
        "BAD", "NOT", "FULL", "NONE", "NULL", "CAST", "INDEX", "SIZE");

    public static void main(String[] args) {
        Due due = new Due();
        due.is("BAD", -1, BookOfWills.BAD);
        due.is("NOT", -2, BookOfWills.NOT);
        due.is("FULL", -3, BookOfWills.FULL);
        due.is("NONE", -4, BookOfWills.NONE);
        due.is("NULL", -11, BookOfWills.NULL);
        due.is("CAST", -12, BookOfWills.CAST);
        due.is("INDEX", -13, BookOfWills.INDEX);
        due.is("SIZE", -14, BookOfWills.SIZE);

        Class<?> face = BookOfWills.class;
        due.is("public and final", 1, Modifier.isPublic(face.getModifiers()) && Modifier.isFinal(face.getModifiers()) ? 1 : 0);
        due.is("constructors", 1, face.getDeclaredConstructors().length);
        TreeSet<String> methods = new TreeSet<>();
        TreeSet<String> publicNames = new TreeSet<>();
        for (Method m : face.getDeclaredMethods()) {
            if (!Modifier.isPrivate(m.getModifiers())) {
                methods.add(signature(m));
                publicNames.add(m.getName());
            }
        }
        same(due, "methods", new TreeSet<>(METHODS), methods);
        for (Method m : face.getDeclaredMethods()) {
            if (Modifier.isPrivate(m.getModifiers())) {
                due.is("a private method named as a public one: " + m.getName(), 0, publicNames.contains(m.getName()) ? 1 : 0);
            }
        }
        TreeSet<String> constants = new TreeSet<>();
        for (Field f : face.getDeclaredFields()) {
            if (!Modifier.isPrivate(f.getModifiers())) {
                constants.add(f.getName());
            }
        }
        same(due, "constants", new TreeSet<>(CONSTANTS), constants);
        classesInside(due, face);
        due.end();
    }

    private static void classesInside(Due due, Class<?> face) {
        due.is("at most twelve classes", 1, face.getDeclaredClasses().length <= 11 ? 1 : 0);
        for (Class<?> inside : face.getDeclaredClasses()) {
            int modifiers = inside.getModifiers();
            due.is(inside.getName() + " is static, not public", 1,
                Modifier.isStatic(modifiers) && !Modifier.isPublic(modifiers) && !Modifier.isProtected(modifiers) ? 1 : 0);
            due.is(inside.getName() + " has at most twenty fields", 1, inside.getDeclaredFields().length <= 20 ? 1 : 0);
        }
    }

    private static String signature(Method m) {
        StringBuilder text = new StringBuilder();
        text.append(m.getReturnType().getName()).append(' ').append(m.getName()).append('(');
        Class<?>[] types = m.getParameterTypes();
        text.append(String.join(",", Arrays.stream(types).map(Class::getName).toList()));
        return text.append(')').toString();
    }

    private static void same(Due due, String what, TreeSet<String> want, TreeSet<String> got) {
        due.is(what + ": due are " + want + ", there are " + got, 1, want.equals(got) ? 1 : 0);
    }
}
