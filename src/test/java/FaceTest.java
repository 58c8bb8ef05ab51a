import java.lang.reflect.Constructor;
import java.lang.reflect.Field;
import java.lang.reflect.Method;
import java.lang.reflect.Modifier;
import java.util.Set;
import java.util.TreeSet;

/** The class has the document's face, and nothing else that a caller could see. */
public final class FaceTest {
    private static final String[] FACE = {
        "int lay(int, int, int, int) IllegalArgumentException IllegalStateException",
        "int take(int) IndexOutOfBoundsException IllegalStateException",
        "int nail(int, int) IndexOutOfBoundsException IllegalArgumentException IllegalStateException",
        "int board(int, int) IndexOutOfBoundsException IllegalStateException",
        "int setDay(int, int, boolean, int, int) IndexOutOfBoundsException IllegalArgumentException",
        "int slate(int, int) IndexOutOfBoundsException",
        "int place(int, int, int) IndexOutOfBoundsException",
        "int count(int) IndexOutOfBoundsException",
        "int lift(int, int, boolean) IndexOutOfBoundsException IllegalArgumentException IllegalStateException",
        "int storm(int, boolean, int) IllegalArgumentException IndexOutOfBoundsException",
        "int bears(boolean)",
        "int comes(int, int, int) IllegalArgumentException IndexOutOfBoundsException",
        "int leaks(int) IllegalArgumentException",
        "int needs(int, int, int) IllegalArgumentException",
        "int best()",
        "int pass(int) IllegalArgumentException",
        "int foresee(int, int) IllegalArgumentException IndexOutOfBoundsException",
        "double share()",
        "long digest()"};

    private static String written(Method m) {
        StringBuilder text = new StringBuilder(m.getReturnType().getSimpleName());
        text.append(' ').append(m.getName()).append('(');
        for (int i = 0; i < m.getParameterCount(); i++) {
            text.append(i == 0 ? "" : ", ").append(m.getParameterTypes()[i].getSimpleName());
        }
        text.append(')');
        for (Class<?> thrown : m.getExceptionTypes()) {
            text.append(' ').append(thrown.getSimpleName());
        }
        return text.toString();
    }

    private static boolean isHidden(int modifiers) {
        return Modifier.isPrivate(modifiers);
    }

    public static void main(String[] args) {
        Class<?> c = SlateRoofs.class;
        Set<String> want = new TreeSet<>(Set.of(FACE));
        Set<String> got = new TreeSet<>();
        Set<String> names = new TreeSet<>();
        boolean good = Modifier.isPublic(c.getModifiers()) && Modifier.isFinal(c.getModifiers());
        for (Method m : c.getDeclaredMethods()) {
            if (!isHidden(m.getModifiers()) && !m.isSynthetic()) {
                got.add(written(m));
                names.add(m.getName());
            }
        }
        for (Method m : c.getDeclaredMethods()) {
            good &= !isHidden(m.getModifiers()) || !names.contains(m.getName());
        }
        for (Field f : c.getDeclaredFields()) {
            good &= isHidden(f.getModifiers());
        }
        Constructor<?>[] made = c.getDeclaredConstructors();
        good &= made.length == 1 && Modifier.isPublic(made[0].getModifiers()) && made[0].getParameterCount() == 0;
        if (!good || !got.equals(want)) {
            System.out.println("the face is " + got + ", due is " + want);
            System.exit(1);
        }
        System.out.println("the face is the document's");
    }
}
