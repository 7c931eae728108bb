import java.lang.reflect.Constructor;
import java.lang.reflect.Field;
import java.lang.reflect.Method;
import java.lang.reflect.Modifier;
import java.util.Set;
import java.util.TreeSet;
import java.util.stream.Collectors;
import java.util.stream.Stream;

/** The document's public face: all of it, and nothing beside it (LANGUAGE.md, rules 1 and 5). */
public final class FaceTest {
    private static final String I = "IndexOutOfBoundsException";
    private static final String A = "IllegalArgumentException";
    private static final String S = "IllegalStateException";

    private static final Set<String> FACE = new TreeSet<>(Set.of(
        "int dig(int, int, int, int, int) throws " + A + ", " + S,
        "int link(int, int) throws " + I + ", " + A,
        "int puddle(int, int) throws " + I + ", " + A + ", " + S,
        "boolean strew(int, boolean) throws " + I,
        "int pour(int, int) throws " + I + ", " + A,
        "int pond(int, int) throws " + I,
        "int setWeather(int, int, int, int) throws " + I + ", " + A,
        "int bring(int) throws " + A + ", " + S,
        "int addFlock(int, int) throws " + I + ", " + A + ", " + S,
        "int drive(int, int) throws " + I + ", " + S,
        "boolean setRoams(int, boolean) throws " + I,
        "int flock(int, int) throws " + I,
        "int pass(int) throws " + A,
        "int count(int) throws " + I,
        "int foresee(int, int) throws " + I + ", " + A,
        "int lasts(int) throws " + I,
        "int keep(int, int) throws " + I + ", " + A,
        "int advise(int) throws " + A,
        "double full()",
        "long digest()"));

    public static void main(String[] args) {
        int publicFinal = Modifier.PUBLIC | Modifier.FINAL;
        Check.due("the class's modifiers", DewPond.class.getModifiers(), publicFinal);
        methods();
        constructors();
        fieldsAndClasses();
        Check.end();
    }

    private static void methods() {
        Set<String> open = new TreeSet<>();
        Set<String> openNames = new TreeSet<>();
        Set<String> hiddenNames = new TreeSet<>();
        for (Method method : DewPond.class.getDeclaredMethods()) {
            if (Modifier.isPrivate(method.getModifiers())) {
                hiddenNames.add(method.getName());
            } else {
                Check.due(method + " is public alone", method.getModifiers(), Modifier.PUBLIC);
                open.add(written(method));
                openNames.add(method.getName());
            }
        }
        Check.due("the face is " + open + ", due is " + FACE + ":", open.equals(FACE), true);
        hiddenNames.retainAll(openNames);
        Check.due("private methods with the name of a public one, " + hiddenNames, hiddenNames.size(), 0);
    }

    private static void constructors() {
        Constructor<?>[] all = DewPond.class.getDeclaredConstructors();
        Check.due("constructors", all.length, 1);
        Check.due("the constructor is public", all[0].getModifiers(), Modifier.PUBLIC);
        Check.due("its parameters", all[0].getParameterCount(), 0);
    }

    private static void fieldsAndClasses() {
        for (Field field : DewPond.class.getDeclaredFields()) {
            int modifiers = field.getModifiers();
            Check.due(field + " is private", Modifier.isPrivate(modifiers), true);
        }
        for (Class<?> inside : DewPond.class.getDeclaredClasses()) {
            int modifiers = inside.getModifiers();
            Check.due(inside + " is not public", Modifier.isPublic(modifiers), false);
            Check.due(inside + " is not protected", Modifier.isProtected(modifiers), false);
            Check.due(inside + " is static", Modifier.isStatic(modifiers), true);
            for (Field field : inside.getDeclaredFields()) {
                boolean isFinalIfStatic = !Modifier.isStatic(field.getModifiers())
                        || Modifier.isFinal(field.getModifiers());
                Check.due(field + " is no changing static", isFinalIfStatic, true);
            }
        }
    }

    private static String written(Method method) {
        String thrown = names(method.getExceptionTypes());
        return method.getReturnType().getSimpleName() + " " + method.getName() + "("
                + names(method.getParameterTypes()) + ")" + (thrown.isEmpty() ? "" : " throws " + thrown);
    }

    private static String names(Class<?>[] types) {
        return Stream.of(types).map(Class::getSimpleName).collect(Collectors.joining(", "));
    }
}
