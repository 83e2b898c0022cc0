import java.lang.reflect.Constructor;
import java.lang.reflect.Field;
import java.lang.reflect.Method;
import java.lang.reflect.Modifier;
import java.util.Arrays;
import java.util.List;
import java.util.TreeSet;

/** The face of the class: just the members of the document, and none of their names used for a private one. */
public final class FaceTest {
    private static final List<String> FACE = List.of(
            "int setNumber(int,int,char,int) IllegalArgumentException UnsupportedOperationException",
            "int number(int) IllegalArgumentException",
            "int addFeature(char,int,int,int) IllegalArgumentException IllegalStateException"
                    + " UnsupportedOperationException",
            "int setSize(int,int,int,int) NoSuchElementException IllegalArgumentException",
            "int remove(int) NoSuchElementException UnsupportedOperationException",
            "int move(int,int) NoSuchElementException IndexOutOfBoundsException UnsupportedOperationException",
            "boolean putOff(int,boolean) NoSuchElementException",
            "int setBar(int) IndexOutOfBoundsException",
            "int place(int) NoSuchElementException",
            "char state(int) NoSuchElementException",
            "long worked()",
            "boolean has(int,int,int) IndexOutOfBoundsException",
            "boolean hasAnew(int,int,int) IndexOutOfBoundsException",
            "int nameOf(int,int,int,int) IndexOutOfBoundsException IllegalArgumentException NoSuchElementException",
            "int squares(int,int) IllegalArgumentException",
            "int volume()",
            "int area()",
            "int bodies()",
            "int euler()",
            "double centre(int) IllegalArgumentException ArithmeticException",
            "float filled()",
            "int addPart(int,int,int) IllegalArgumentException IllegalStateException",
            "boolean freeze(int,boolean) IndexOutOfBoundsException",
            "int mate(int,int,int,int) IndexOutOfBoundsException IllegalArgumentException"
                    + " UnsupportedOperationException IllegalStateException",
            "int drag(int,int,int) IndexOutOfBoundsException IllegalArgumentException UnsupportedOperationException",
            "int moved(int,int) IndexOutOfBoundsException IllegalArgumentException",
            "int freedoms()",
            "int clashes(int,int) IndexOutOfBoundsException IllegalArgumentException",
            "int depth(int,boolean,int,int) IllegalArgumentException IndexOutOfBoundsException",
            "int lines(int,boolean) IllegalArgumentException",
            "boolean isSound()");

    private static String told(Method method) {
        StringBuilder text = new StringBuilder(method.getReturnType().getName()).append(' ').append(method.getName());
        String[] kinds = Arrays.stream(method.getParameterTypes()).map(Class::getName).toArray(String[]::new);
        text.append('(').append(String.join(",", kinds)).append(')');
        for (Class<?> thrown : method.getExceptionTypes()) {
            text.append(' ').append(thrown.getSimpleName());
        }
        return text.toString();
    }

    public static void main(String[] args) {
        Check check = new Check();
        TreeSet<String> open = new TreeSet<>();
        TreeSet<String> openNames = new TreeSet<>();
        for (Method method : Solidhearth.class.getDeclaredMethods()) {
            if (!Modifier.isPrivate(method.getModifiers())) {
                open.add(told(method));
                openNames.add(method.getName());
            }
        }
        check.is("the methods that are not private", open, new TreeSet<>(FACE));
        for (Method method : Solidhearth.class.getDeclaredMethods()) {
            boolean isPrivate = Modifier.isPrivate(method.getModifiers());
            check.is("a private " + method.getName(), isPrivate && openNames.contains(method.getName()), false);
        }
        for (Field field : Solidhearth.class.getDeclaredFields()) {
            check.is("the field " + field.getName() + " is private", Modifier.isPrivate(field.getModifiers()), true);
        }
        for (Class<?> inner : Solidhearth.class.getDeclaredClasses()) {
            int marks = inner.getModifiers();
            check.is(inner.getName() + " is private or package-visible, and static", Modifier.isStatic(marks)
                    && !Modifier.isPublic(marks) && !Modifier.isProtected(marks), true);
            for (Method method : inner.getDeclaredMethods()) {
                boolean isPrivate = Modifier.isPrivate(method.getModifiers());
                check.is("an inner private " + method.getName(),
                        isPrivate && openNames.contains(method.getName()), false);
            }
        }
        Constructor<?>[] makers = Solidhearth.class.getDeclaredConstructors();
        check.is("constructors", makers.length, 1);
        check.is("it is public", Modifier.isPublic(makers[0].getModifiers()), true);
        check.is("the class is public and final", Modifier.toString(Solidhearth.class.getModifiers()), "public final");
        check.end();
    }
}
