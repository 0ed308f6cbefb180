import java.lang.reflect.Constructor;
import java.lang.reflect.Executable;
import java.lang.reflect.Field;
import java.lang.reflect.Method;
import java.lang.reflect.Modifier;
import java.util.Arrays;
import java.util.Set;
import java.util.TreeSet;

/** The public face: what the document lists, and no other member that can be seen from outside. */
public final class FaceTest {
    private static final String[] FACE = {
        "HouseThreads2() throws []",
        "int part(int) throws [IllegalArgumentException, UnsupportedOperationException]",
        "int step(int, int, int, int) throws [NoSuchElementException, IllegalArgumentException,"
                + " IllegalStateException, UnsupportedOperationException]",
        "void fails(int, int, boolean) throws [NoSuchElementException, IllegalArgumentException]",
        "void losing(boolean) throws []",
        "int turn(int) throws [NoSuchElementException, IllegalStateException]",
        "int run(int) throws [IllegalArgumentException]",
        "int again(int) throws [NoSuchElementException, IllegalStateException]",
        "int interrupt(int) throws [NoSuchElementException, IllegalStateException]",
        "void restart(int) throws [NoSuchElementException, IllegalStateException]",
        "int close() throws []",
        "int log(int) throws [IllegalArgumentException]",
        "int place(int, int) throws [IllegalArgumentException]",
        "int message(int, int) throws [NoSuchElementException, IllegalArgumentException]",
        "int told(int, int) throws [NoSuchElementException, IllegalArgumentException]",
        "int count(int) throws []",
    };

    public static void main(String[] args) {
        Set<String> seen = new TreeSet<>();
        Set<String> publicNames = new TreeSet<>();
        for (Constructor<?> c : HouseThreads2.class.getDeclaredConstructors()) {
            seen.add("HouseThreads2" + types(c));
        }
        for (Method m : HouseThreads2.class.getDeclaredMethods()) {
            if (Modifier.isPublic(m.getModifiers())) {
                seen.add(m.getReturnType().getSimpleName() + " " + m.getName() + types(m));
                publicNames.add(m.getName());
            }
        }
        Set<String> due = new TreeSet<>(Arrays.asList(FACE));
        for (String s : due) {
            Due.is("the face has " + s, seen.contains(s) ? 1 : 0, 1);
        }
        for (String s : seen) {
            Due.is("the document has " + s, due.contains(s) ? 1 : 0, 1);
        }
        for (Method m : HouseThreads2.class.getDeclaredMethods()) {
            boolean fine = Modifier.isPublic(m.getModifiers())
                    || Modifier.isPrivate(m.getModifiers()) && !publicNames.contains(m.getName());
            Due.is("rule 1 for " + m.getName(), fine ? 1 : 0, 1);
        }
        for (Field f : HouseThreads2.class.getDeclaredFields()) {
            Due.is("private: " + f.getName(), Modifier.isPrivate(f.getModifiers()) ? 1 : 0, 1);
        }
        Due.is("the class is public and final", HouseThreads2.class.getModifiers(), Modifier.PUBLIC | Modifier.FINAL);
        Due.end();
    }

    private static String types(Executable e) {
        return Arrays.stream(e.getParameterTypes()).map(Class::getSimpleName).toList().toString()
                .replace('[', '(').replace(']', ')')
                + " throws " + Arrays.stream(e.getExceptionTypes()).map(Class::getSimpleName).toList();
    }
}
