import java.lang.reflect.Constructor;
import java.lang.reflect.Field;
import java.lang.reflect.Method;
import java.lang.reflect.Modifier;
import java.util.Arrays;
import java.util.Set;
import java.util.TreeSet;
import java.util.stream.Collectors;

/** The public face: the members that the document names, with their types and exceptions, and no others. */
public final class FaceTest {
    private static final Checks CHECKS = new Checks();

    private static final String[] FACE = {
        "int append(int,long) IllegalStateException,IllegalArgumentException,UnsupportedOperationException",
        "int sync() IllegalStateException,UnsupportedOperationException",
        "void cutAfter(int) IllegalArgumentException",
        "int off() IllegalStateException",
        "int start() IllegalStateException",
        "int trim(int) IllegalStateException,IllegalArgumentException",
        "int first() IllegalStateException",
        "int count() IllegalStateException",
        "int length(int) IllegalStateException,IndexOutOfBoundsException",
        "long event(int) IllegalStateException,IndexOutOfBoundsException,NoSuchElementException",
        "boolean ruin(int,int,boolean) IndexOutOfBoundsException",
        "int page(int,int,boolean) IndexOutOfBoundsException",
        "int at(int,int,boolean,int) IndexOutOfBoundsException,NoSuchElementException",
        "int guard(int) IndexOutOfBoundsException",
        "int guarded(int,int) IndexOutOfBoundsException,NoSuchElementException",
        "int told(int) ",
    };

    public static void main(String[] args) {
        CHECKS.same("the class is public and final", Modifier.PUBLIC | Modifier.FINAL,
                PairedCells.class.getModifiers());
        CHECKS.same("the methods", new TreeSet<>(Arrays.asList(FACE)).toString(), openMethods().toString());
        CHECKS.same("no private method has a public one's name", "[]", hiddenNamesakes().toString());
        constants();
        constructors();
        CHECKS.finish();
    }

    private static Set<String> openMethods() {
        return Arrays.stream(PairedCells.class.getDeclaredMethods())
                .filter(m -> !Modifier.isPrivate(m.getModifiers()) && !m.isSynthetic())
                .map(FaceTest::described).collect(Collectors.toCollection(TreeSet::new));
    }

    private static String described(Method m) {
        CHECKS.same(m.getName() + " is public, not static", Modifier.PUBLIC, m.getModifiers());
        return m.getReturnType() + " " + m.getName() + "(" + names(m.getParameterTypes()) + ") "
                + names(m.getExceptionTypes());
    }

    private static String names(Class<?>[] types) {
        return Arrays.stream(types).map(Class::getSimpleName).collect(Collectors.joining(","));
    }

    private static Set<String> hiddenNamesakes() {
        Set<String> open = Arrays.stream(FACE).map(s -> s.substring(s.indexOf(' ') + 1, s.indexOf('(')))
                .collect(Collectors.toSet());
        Set<String> found = new TreeSet<>();
        for (Class<?> inside : PairedCells.class.getDeclaredClasses()) {
            Arrays.stream(inside.getDeclaredMethods()).map(Method::getName).filter(open::contains)
                    .forEach(found::add);
        }
        Arrays.stream(PairedCells.class.getDeclaredMethods()).filter(m -> Modifier.isPrivate(m.getModifiers()))
                .map(Method::getName).filter(open::contains).forEach(found::add);
        return found;
    }

    private static void constants() {
        CHECKS.same("NONE", -1, PairedCells.NONE);
        CHECKS.same("CUT", -2, PairedCells.CUT);
        Set<String> open = Arrays.stream(PairedCells.class.getDeclaredFields())
                .filter(f -> !Modifier.isPrivate(f.getModifiers())).map(Field::getName)
                .collect(Collectors.toCollection(TreeSet::new));
        CHECKS.same("the open fields", "[CUT, NONE]", open.toString());
    }

    private static void constructors() {
        Constructor<?>[] all = PairedCells.class.getDeclaredConstructors();
        CHECKS.same("how many constructors", 1, all.length);
        CHECKS.same("the constructor is public", Modifier.PUBLIC, all[0].getModifiers());
        CHECKS.same("its parameters", 0, all[0].getParameterCount());
    }
}
