import java.lang.reflect.Constructor;
import java.lang.reflect.Field;
import java.lang.reflect.Method;
import java.lang.reflect.Modifier;
import java.util.ArrayList;
import java.util.Arrays;
import java.util.List;
import java.util.NoSuchElementException;
import java.util.TreeSet;

/** The face is the document's, and nothing else can be seen. */
public final class FaceTest {
    private static final List<String> FACE = List.of(
            "int feed(long, long, long)", "int junction()", "int days()", "int thing(int, int)",
            "int buyer(int, int)", "boolean out(int, boolean)", "boolean set(int, int)",
            "boolean heats(int, int)", "boolean undo()", "int judged(int)", "int served(int, int)",
            "int round(int)", "int chance(int)", "int rests(int, int)", "int errand(int, int)",
            "int table(int, int)", "int stand()", "int ring()", "int best(int, boolean)",
            "int tray(int, int)", "int price(int)", "int ahead(int, int)", "int most(int)",
            "boolean sell(int, int)", "int laws(int)", "boolean see(int, int)", "int was()",
            "int years(int, int, int)", "boolean mark(int, boolean)", "int count(int)");

    private FaceTest() {
    }

    public static void main(String[] args) throws NoSuchMethodException {
        Class<?> face = TeaJunction.class;
        Check.due("public final", face.getModifiers(), Modifier.PUBLIC | Modifier.FINAL);
        TreeSet<String> names = new TreeSet<>();
        List<String> seen = new ArrayList<>();
        for (Method m : face.getDeclaredMethods()) {
            if (Modifier.isPublic(m.getModifiers())) {
                String types = Arrays.toString(m.getParameterTypes());
                seen.add(m.getReturnType() + " " + m.getName() + "(" + types.substring(1, types.length() - 1) + ")");
                names.add(m.getName());
            }
        }
        Check.due("the document's methods", seen.containsAll(FACE), true);
        Check.due("no other", seen.size(), FACE.size());
        for (Method m : face.getDeclaredMethods()) {
            if (!Modifier.isPublic(m.getModifiers())) {
                Check.due(m + " is private", Modifier.isPrivate(m.getModifiers()), true);
                Check.due(m + " bears no public name", names.contains(m.getName()), false);
            }
        }
        for (Field f : face.getDeclaredFields()) {
            Check.due(f + " is private", Modifier.isPrivate(f.getModifiers()), !f.getName().equals("NONE"));
            Check.due(f + " static only if final",
                    Modifier.isStatic(f.getModifiers()) && !Modifier.isFinal(f.getModifiers()), false);
        }
        Constructor<?>[] made = face.getDeclaredConstructors();
        Check.due("one constructor", made.length, 1);
        Check.due("public", Modifier.isPublic(made[0].getModifiers()), true);
        Class<?>[] thrown = face.getMethod("rests", int.class, int.class).getExceptionTypes();
        Check.due("rests throws", thrown.length == 1 && thrown[0] == NoSuchElementException.class, true);
        for (Class<?> inside : face.getDeclaredClasses()) {
            Check.due(inside + " is static", Modifier.isStatic(inside.getModifiers()), true);
            Check.due(inside + " is hidden",
                    (inside.getModifiers() & (Modifier.PUBLIC | Modifier.PROTECTED)) != 0, false);
        }
        Check.end("FaceTest");
    }
}
