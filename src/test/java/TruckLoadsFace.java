import java.lang.reflect.Constructor;
import java.lang.reflect.Field;
import java.lang.reflect.Method;
import java.lang.reflect.Modifier;
import java.util.Set;
import java.util.StringJoiner;
import java.util.TreeSet;

/** The public face of the document, member by member, and no other member that can be seen. */
public final class TruckLoadsFace {
    private static final String[] METHODS = {
        "void cell(int, int, boolean) throws ArrayIndexOutOfBoundsException, IllegalArgumentException, IllegalStateException",
        "void axles(int, int, int, int) throws IllegalArgumentException",
        "int pallet(int, boolean, boolean, int, int) throws IllegalArgumentException, IllegalStateException, UnsupportedOperationException",
        "int solve(int) throws IllegalArgumentException, IllegalStateException",
        "boolean exact()",
        "int bound()",
        "int place(int, int) throws NoSuchElementException, IllegalArgumentException, IllegalStateException",
        "int at(int) throws NoSuchElementException",
        "int axle(int, int) throws IllegalArgumentException, ArithmeticException",
        "int bar(int) throws NoSuchElementException, IllegalStateException",
        "boolean change(int, int) throws NoSuchElementException, IllegalArgumentException, IllegalStateException",
        "boolean doors(boolean) throws IllegalStateException",
        "boolean seal(int) throws IllegalArgumentException, IllegalStateException, UnsupportedOperationException",
        "int broken() throws IllegalStateException",
        "int order(int, int) throws IllegalArgumentException",
        "int manifest(int) throws IllegalArgumentException",
        "int count(int)"};

    private static final Check check = new Check();

    public static void main(String[] args) {
        Set<String> names = new TreeSet<>();
        Set<String> seen = new TreeSet<>();
        for (Method method : TruckLoads.class.getDeclaredMethods()) {
            if (Modifier.isPublic(method.getModifiers())) {
                names.add(method.getName());
                seen.add(text(method));
            }
        }
        check.same("the public methods", new TreeSet<>(Set.of(METHODS)).toString(), seen.toString());
        hiddenMembers(names);
        constructors();
        nestedClasses();
        check.same("the class is public and final", "17", String.valueOf(TruckLoads.class.getModifiers()));
        check.end();
    }

    private static String text(Method method) {
        String thrown = names(method.getExceptionTypes());
        return method.getReturnType().getSimpleName() + " " + method.getName() + "("
                + names(method.getParameterTypes()) + ")" + (thrown.isEmpty() ? "" : " throws " + thrown);
    }

    private static String names(Class<?>[] types) {
        StringJoiner all = new StringJoiner(", ");
        for (Class<?> type : types) {
            all.add(type.getSimpleName());
        }
        return all.toString();
    }

    private static void hiddenMembers(Set<String> publicNames) {
        for (Method method : TruckLoads.class.getDeclaredMethods()) {
            if (!Modifier.isPublic(method.getModifiers())) {
                check.same(method + " is private", "true", "" + Modifier.isPrivate(method.getModifiers()));
                check.same(method + " has a public one's name", "false", "" + publicNames.contains(method.getName()));
            }
        }
        for (Field field : TruckLoads.class.getDeclaredFields()) {
            check.same(field + " is private", "true", "" + Modifier.isPrivate(field.getModifiers()));
            if (Modifier.isStatic(field.getModifiers())) {
                check.same(field + " is final", "true", "" + Modifier.isFinal(field.getModifiers()));
            }
        }
    }

    private static void constructors() {
        StringJoiner all = new StringJoiner("; ");
        for (Constructor<?> constructor : TruckLoads.class.getDeclaredConstructors()) {
            all.add(constructor.toString());
        }
        check.same("the constructors", "public TruckLoads(int)", all.toString());
    }

    private static void nestedClasses() {
        for (Class<?> nested : TruckLoads.class.getDeclaredClasses()) {
            int modifiers = nested.getModifiers();
            check.same(nested + " is hidden and static", "true",
                    "" + (!Modifier.isPublic(modifiers) && !Modifier.isProtected(modifiers) && Modifier.isStatic(modifiers)));
        }
    }
}
