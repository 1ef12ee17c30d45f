import java.lang.reflect.Constructor;
import java.lang.reflect.Field;
import java.lang.reflect.Method;
import java.lang.reflect.Modifier;
import java.util.Arrays;
import java.util.Set;
import java.util.TreeSet;
import java.util.stream.Collectors;

/** The face: just the document's members are public, none but classes lies between public and private. */
public final class FaceTest {
    private static final String[] FACE = {
        "int feed(int,int,int,int,int)",
        "boolean end(int)",
        "int rule() throws IllegalArgumentException,UnsupportedOperationException",
        "int turner() throws IllegalArgumentException,UnsupportedOperationException",
        "int claim(int,int) throws IndexOutOfBoundsException,IllegalArgumentException,UnsupportedOperationException",
        "int fault()",
        "boolean right(int,int) throws IndexOutOfBoundsException,IllegalArgumentException",
        "int card(int,boolean) throws IllegalArgumentException,UnsupportedOperationException",
        "int made(int,int) throws IndexOutOfBoundsException,IllegalArgumentException,UnsupportedOperationException",
        "int away()",
        "int eye() throws UnsupportedOperationException",
        "int wire(int,int,int) throws IndexOutOfBoundsException,IllegalArgumentException,UnsupportedOperationException",
        "boolean knob(int,int,int) throws IndexOutOfBoundsException,IllegalArgumentException",
        "void stuck(int,int,int) throws IndexOutOfBoundsException,IllegalArgumentException",
        "int look(int,int) throws IndexOutOfBoundsException,NoSuchElementException",
        "int sees(int,int) throws IndexOutOfBoundsException,IllegalArgumentException",
        "boolean show(int,int,int) throws IndexOutOfBoundsException",
        "int turned(int,int,int) throws IndexOutOfBoundsException,IllegalArgumentException",
        "boolean can(int,int) throws IndexOutOfBoundsException,IllegalArgumentException",
        "int found(int,int,int) throws IndexOutOfBoundsException,IllegalArgumentException,NoSuchElementException",
        "int bars(int,int) throws IndexOutOfBoundsException,IllegalArgumentException",
        "int bound(int,int) throws IndexOutOfBoundsException,IllegalArgumentException",
        "int blind(int,int) throws IndexOutOfBoundsException",
        "int odds(int,int,int) throws IndexOutOfBoundsException,IllegalArgumentException",
        "int covered(int,int) throws IndexOutOfBoundsException",
        "int goesBy(int) throws IndexOutOfBoundsException",
        "int along(int) throws IndexOutOfBoundsException",
        "int cloud()",
        "int mend(int,int) throws IndexOutOfBoundsException",
        "int bear(int) throws IndexOutOfBoundsException",
        "int swapped(int,int,int) throws IndexOutOfBoundsException",
        "int soonest(int,int) throws IndexOutOfBoundsException",
        "boolean together(int,int) throws IllegalArgumentException",
        "int layer()",
        "int read(int,int,boolean) throws IndexOutOfBoundsException,IllegalArgumentException",
        "boolean holds(int) throws IndexOutOfBoundsException",
        "void image()",
        "boolean back()",
        "int count(int)",
    };

    private static String names(Class<?>[] types) {
        return Arrays.stream(types).map(Class::getSimpleName).collect(Collectors.joining(","));
    }

    public static void main(String[] args) throws ReflectiveOperationException {
        Check check = new Check("FaceTest");
        Set<String> open = new TreeSet<>();
        Set<String> publicNames = new TreeSet<>();
        Set<String> privateNames = new TreeSet<>();
        for (Method m : KnobEye.class.getDeclaredMethods()) {
            if (!m.isSynthetic() && !Modifier.isPrivate(m.getModifiers())) {
                String thrown = names(m.getExceptionTypes());
                open.add(m.getReturnType().getSimpleName() + " " + m.getName() + "(" + names(m.getParameterTypes()) + ")"
                        + (thrown.isEmpty() ? "" : " throws " + thrown));
                publicNames.add(m.getName());
                check.due(m.getName() + " is public alone", m.getModifiers(), Modifier.PUBLIC);
            }
        }
        check.due("the methods that are not private", open, new TreeSet<>(Arrays.asList(FACE)));
        check.due("the class is public and final", KnobEye.class.getModifiers(), Modifier.PUBLIC | Modifier.FINAL);
        for (Field f : KnobEye.class.getDeclaredFields()) {
            boolean none = f.getName().equals("NONE");
            check.due("field " + f.getName() + " is private", Modifier.isPrivate(f.getModifiers()), !none);
            check.due("field " + f.getName() + " is no changeable static",
                    Modifier.isStatic(f.getModifiers()) && !Modifier.isFinal(f.getModifiers()), false);
        }
        check.due("NONE", KnobEye.class.getField("NONE").getInt(null), -1);
        Constructor<?>[] made = KnobEye.class.getDeclaredConstructors();
        check.due("constructors", made.length, 1);
        check.due("its parameters", made[0].getParameterCount(), 0);
        check.due("it is public", Modifier.isPublic(made[0].getModifiers()), true);
        Class<?>[] inside = KnobEye.class.getDeclaredClasses();
        check.due("some twelve classes in all", inside.length + 1 <= 12, true);
        for (Class<?> c : inside) {
            check.due(c.getSimpleName() + " is static", Modifier.isStatic(c.getModifiers()), true);
            check.due(c.getSimpleName() + " is not public", Modifier.isPublic(c.getModifiers()), false);
            for (Method m : c.getDeclaredMethods()) {
                privateNames.add(m.getName());
            }
        }
        for (Method m : KnobEye.class.getDeclaredMethods()) {
            if (Modifier.isPrivate(m.getModifiers())) {
                privateNames.add(m.getName());
            }
        }
        privateNames.retainAll(publicNames);
        check.due("names that private and public methods share", privateNames.toString(), "[]");
        check.end();
    }
}
