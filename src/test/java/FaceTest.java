import java.lang.reflect.Constructor;
import java.lang.reflect.Field;
import java.lang.reflect.Method;
import java.lang.reflect.Modifier;
import java.util.Arrays;
import java.util.List;
import java.util.TreeSet;

/** The class has the document's face, and nothing else of it can be seen from outside. */
final class FaceTest {
    private static final List<String> FACE = List.of(
        "public ClauseGlass()",
        "public int ClauseGlass.sort() throws java.lang.IndexOutOfBoundsException",
        "public int ClauseGlass.con(int,int,int,int)"
            + " throws java.lang.IllegalArgumentException,java.lang.IndexOutOfBoundsException",
        "public int ClauseGlass.any(int)"
            + " throws java.lang.IllegalArgumentException,java.lang.IndexOutOfBoundsException",
        "public int ClauseGlass.number(int) throws java.lang.IndexOutOfBoundsException",
        "public int ClauseGlass.made(int,int,int)"
            + " throws java.lang.IllegalArgumentException,java.lang.IndexOutOfBoundsException",
        "public void ClauseGlass.begin(int) throws java.lang.IllegalArgumentException",
        "public boolean ClauseGlass.clause(int)"
            + " throws java.lang.IllegalArgumentException,java.lang.IndexOutOfBoundsException",
        "public boolean ClauseGlass.takes(int) throws java.lang.IllegalArgumentException",
        "public boolean ClauseGlass.open()",
        "public boolean ClauseGlass.covers(int,int) throws java.lang.IllegalArgumentException",
        "public boolean ClauseGlass.meets(int,int) throws java.lang.IllegalArgumentException",
        "public boolean ClauseGlass.lives(int) throws java.lang.IllegalArgumentException",
        "public int ClauseGlass.count(int)");

    public static void main(String[] args) {
        TreeSet<String> seen = new TreeSet<>();
        for (Constructor<?> c : ClauseGlass.class.getDeclaredConstructors()) {
            seen.add(c.toString());
        }
        for (Method m : ClauseGlass.class.getDeclaredMethods()) {
            if (!Modifier.isPrivate(m.getModifiers())) {
                seen.add(m.toString());
            }
        }
        for (Field f : ClauseGlass.class.getDeclaredFields()) {
            if (!Modifier.isPrivate(f.getModifiers())) {
                seen.add(f.toString());
            }
        }
        Check.due("face", seen.toString(), new TreeSet<>(FACE).toString());
        int kind = ClauseGlass.class.getModifiers();
        Check.due("public", Modifier.isPublic(kind), true);
        Check.due("final", Modifier.isFinal(kind), true);
        Check.due("without a package", ClauseGlass.class.getPackageName(), "");
        for (Class<?> inside : ClauseGlass.class.getDeclaredClasses()) {
            int how = inside.getModifiers();
            Check.due(inside + " is seen", Modifier.isPublic(how) || Modifier.isProtected(how), false);
            Check.due(inside + " is static", Modifier.isStatic(how), true);
        }
        noPrivateNamesake();
        Check.finish();
    }

    private static void noPrivateNamesake() {
        for (Method face : ClauseGlass.class.getMethods()) {
            for (Method m : ClauseGlass.class.getDeclaredMethods()) {
                boolean namesake = Modifier.isPrivate(m.getModifiers()) && m.getName().equals(face.getName());
                Check.due("private " + m.getName() + Arrays.toString(m.getParameterTypes()), namesake, false);
            }
        }
    }
}
