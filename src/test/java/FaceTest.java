import java.lang.reflect.Constructor;
import java.lang.reflect.Field;
import java.lang.reflect.Method;
import java.lang.reflect.Modifier;
import java.util.Arrays;
import java.util.List;
import java.util.TreeSet;
import java.util.stream.Collectors;

/** "The public face": each of its lines, and that nothing else can be seen from outside. */
final class FaceTest {
    public static void main(String[] args) {
        Sentences.run(FaceTest.class);
    }

    @Sentence("public final class ClauseGlass")
    static void theClassItself() {
        int kind = ClauseGlass.class.getModifiers();
        Check.due("public", Modifier.isPublic(kind), true);
        Check.due("final", Modifier.isFinal(kind), true);
        Check.due("without a package", ClauseGlass.class.getPackageName(), "");
        Check.due("above it", ClauseGlass.class.getSuperclass().getName(), "java.lang.Object");
        Check.due("interfaces", ClauseGlass.class.getInterfaces().length, 0);
    }

    @Sentence("public final class ClauseGlass")
    static void nothingIsSeenButTheFace() {
        TreeSet<String> seen = new TreeSet<>();
        for (Constructor<?> c : ClauseGlass.class.getDeclaredConstructors()) {
            seen.add(lineOf(c));
        }
        for (Method m : ClauseGlass.class.getDeclaredMethods()) {
            if (!Modifier.isPrivate(m.getModifiers())) {
                seen.add(lineOf(m));
            }
        }
        for (Field f : ClauseGlass.class.getDeclaredFields()) {
            if (!Modifier.isPrivate(f.getModifiers())) {
                seen.add(f.toString());
            }
        }
        TreeSet<String> due = new TreeSet<>();
        for (String line : Document.face()) {
            due.add(withoutArgumentNames(line));
        }
        Check.due("face", seen.toString(), due.toString());
    }

    @Sentence("public final class ClauseGlass")
    static void theClassesInsideAreNotSeen() {
        for (Class<?> inside : ClauseGlass.class.getDeclaredClasses()) {
            int how = inside.getModifiers();
            Check.due(inside + " is seen", Modifier.isPublic(how) || Modifier.isProtected(how), false);
            Check.due(inside + " is static", Modifier.isStatic(how), true);
        }
    }

    @Sentence("public final class ClauseGlass")
    static void noPrivateMethodHasAPublicName() {
        for (Method face : ClauseGlass.class.getMethods()) {
            for (Method m : ClauseGlass.class.getDeclaredMethods()) {
                boolean namesake = Modifier.isPrivate(m.getModifiers()) && m.getName().equals(face.getName());
                Check.due("private " + m.getName() + Arrays.toString(m.getParameterTypes()), namesake, false);
            }
        }
    }

    @Sentence("public ClauseGlass();")
    static void isMadeWithoutArguments() throws ReflectiveOperationException {
        Constructor<ClauseGlass> made = ClauseGlass.class.getConstructor();
        Check.due("exceptions", made.getExceptionTypes().length, 0);
        Check.due("open()", made.newInstance().open(), true);
    }

    @Sentence("public int sort() throws IndexOutOfBoundsException;")
    static void sort() {
        throwsWhatItsLineSays("sort");
    }

    @Sentence("public int con(int s, int n, int a, int b) throws IllegalArgumentException, IndexOutOfBoundsException;")
    static void con() {
        throwsWhatItsLineSays("con");
    }

    @Sentence("public int any(int s) throws IllegalArgumentException, IndexOutOfBoundsException;")
    static void any() {
        throwsWhatItsLineSays("any");
    }

    @Sentence("public int number(int v) throws IndexOutOfBoundsException;")
    static void number() {
        throwsWhatItsLineSays("number");
    }

    @Sentence("public int made(int c, int p, int q) throws IllegalArgumentException, IndexOutOfBoundsException;")
    static void made() {
        throwsWhatItsLineSays("made");
    }

    @Sentence("public void begin(int s) throws IllegalArgumentException;")
    static void begin() {
        throwsWhatItsLineSays("begin");
    }

    @Sentence("public boolean clause(int p) throws IllegalArgumentException, IndexOutOfBoundsException;")
    static void clause() {
        throwsWhatItsLineSays("clause");
    }

    @Sentence("public boolean takes(int k) throws IllegalArgumentException;")
    static void takes() {
        throwsWhatItsLineSays("takes");
    }

    @Sentence("public boolean open();")
    static void open() {
        throwsWhatItsLineSays("open");
    }

    @Sentence("public boolean covers(int p, int q) throws IllegalArgumentException;")
    static void covers() {
        throwsWhatItsLineSays("covers");
    }

    @Sentence("public boolean meets(int p, int q) throws IllegalArgumentException;")
    static void meets() {
        throwsWhatItsLineSays("meets");
    }

    @Sentence("public boolean lives(int s) throws IllegalArgumentException;")
    static void lives() {
        throwsWhatItsLineSays("lives");
    }

    @Sentence("public int count(int what);")
    static void count() {
        throwsWhatItsLineSays("count");
    }

    /** In all states, with all arguments at the edges: each exception of the line, and no other. */
    private static void throwsWhatItsLineSays(String name) {
        String line = lineNamed(name);
        TreeSet<String> due = new TreeSet<>();
        int at = line.indexOf(" throws ");
        if (at >= 0) {
            due.addAll(List.of(line.substring(at + " throws ".length()).split(", ")));
        }
        due.add("an answer");
        Check.due(name + " comes to", new Sweep(name, argumentsOf(line)).ends().toString(), due.toString());
    }

    private static String lineNamed(String name) {
        for (String line : Document.face()) {
            if (line.contains(" " + name + "(")) {
                return line;
            }
        }
        throw new AssertionError("no such line: " + name);
    }

    private static int argumentsOf(String line) {
        String inside = line.substring(line.indexOf('(') + 1, line.indexOf(')'));
        return inside.isEmpty() ? 0 : inside.split(",").length;
    }

    private static String withoutArgumentNames(String line) {
        return line.replaceAll("int \\w+(?=[,)])", "int");
    }

    private static String lineOf(Constructor<?> c) {
        return seenAs(c.getModifiers()) + c.getName() + told(c.getParameterTypes(), c.getExceptionTypes());
    }

    private static String lineOf(Method m) {
        return seenAs(m.getModifiers()) + m.getReturnType().getSimpleName() + " " + m.getName()
            + told(m.getParameterTypes(), m.getExceptionTypes());
    }

    /** The document's lines are taken without "public": whatever else a member is stands before its line. */
    private static String seenAs(int modifiers) {
        return modifiers == Modifier.PUBLIC ? "" : "[" + Modifier.toString(modifiers) + "] ";
    }

    private static String told(Class<?>[] arguments, Class<?>[] exceptions) {
        String thrown = names(exceptions);
        return "(" + names(arguments) + ")" + (thrown.isEmpty() ? "" : " throws " + thrown);
    }

    private static String names(Class<?>[] types) {
        return Arrays.stream(types).map(Class::getSimpleName).collect(Collectors.joining(", "));
    }
}
