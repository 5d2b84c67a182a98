import java.lang.reflect.Constructor;
import java.lang.reflect.Field;
import java.lang.reflect.Method;
import java.lang.reflect.Modifier;
import java.util.Arrays;
import java.util.Set;
import java.util.TreeSet;

/** The public members are exactly those of the document, and nothing else can be seen from outside. */
public final class AssumptionKeeperFace {
    private static final String[] FACE = {
        "int addStatement() throws IllegalStateException",
        "int addAssumption(int) throws IllegalArgumentException, IllegalStateException",
        "int setWeight(int, int) throws IndexOutOfBoundsException, IllegalArgumentException",
        "int addRule(int, int) throws IllegalArgumentException, IndexOutOfBoundsException, IllegalStateException",
        "boolean turn(int, boolean) throws IndexOutOfBoundsException",
        "int drop() throws IllegalStateException",
        "int nodeCount()",
        "int assumptionCount()",
        "int assumptionOf(int) throws IndexOutOfBoundsException",
        "int nodeOf(int) throws IndexOutOfBoundsException",
        "boolean holds(int, int) throws IndexOutOfBoundsException, IllegalArgumentException",
        "int depth(int, int) throws IndexOutOfBoundsException, IllegalArgumentException",
        "int support(int, int) throws IndexOutOfBoundsException, IllegalArgumentException",
        "int heldCount(int) throws IllegalArgumentException",
        "boolean isConsistent(int) throws IllegalArgumentException",
        "int cost(int) throws IllegalArgumentException",
        "int extend(int) throws IllegalArgumentException, IllegalStateException",
        "int labelSize(int) throws IndexOutOfBoundsException",
        "int label(int, int) throws IndexOutOfBoundsException",
        "int cheapest(int) throws IndexOutOfBoundsException",
        "int needed(int) throws IndexOutOfBoundsException",
        "int useful(int) throws IndexOutOfBoundsException",
        "int nogoodCount()",
        "int nogood(int) throws IndexOutOfBoundsException",
        "int worldCount()",
        "int world(int) throws IndexOutOfBoundsException",
        "int worldsWith(int) throws IndexOutOfBoundsException",
        "double belief(int) throws IndexOutOfBoundsException",
        "boolean implies(int, int) throws IndexOutOfBoundsException",
        "boolean excludes(int, int) throws IndexOutOfBoundsException",
        "long digest()",
    };

    private static int wrong = 0;

    private static void due(String what, boolean isRight) {
        if (!isRight) {
            wrong++;
            System.out.println("the face: " + what);
        }
    }

    private static String names(Class<?>[] types) {
        StringBuilder text = new StringBuilder();
        for (Class<?> type : types) {
            text.append(text.length() == 0 ? "" : ", ").append(type.getSimpleName());
        }
        return text.toString();
    }

    private static String signature(Method method) {
        String thrown = names(method.getExceptionTypes());
        return method.getReturnType().getSimpleName() + " " + method.getName()
                + "(" + names(method.getParameterTypes()) + ")" + (thrown.isEmpty() ? "" : " throws " + thrown);
    }

    private static void checkMethods(Class<?> keeper) {
        Set<String> want = new TreeSet<>(Arrays.asList(FACE));
        Set<String> got = new TreeSet<>();
        Set<String> publicNames = new TreeSet<>();
        for (Method method : keeper.getDeclaredMethods()) {
            if (Modifier.isPublic(method.getModifiers())) {
                due(method.getName() + " is static", !Modifier.isStatic(method.getModifiers()));
                got.add(signature(method));
                publicNames.add(method.getName());
            }
        }
        due("the public methods are " + got + ", due are " + want, got.equals(want));
        for (Method method : keeper.getDeclaredMethods()) {
            int modifiers = method.getModifiers();
            due(method + " can be seen", Modifier.isPublic(modifiers) || Modifier.isPrivate(modifiers));
            due(method + " bears a public name",
                    Modifier.isPublic(modifiers) || !publicNames.contains(method.getName()));
        }
        for (Class<?> inside : keeper.getDeclaredClasses()) {
            due(inside + " is public", !Modifier.isPublic(inside.getModifiers()));
            due(inside + " is not static", Modifier.isStatic(inside.getModifiers()));
            for (Method method : inside.getDeclaredMethods()) {
                due(method + " bears a public name", !publicNames.contains(method.getName()));
            }
        }
    }

    public static void main(String[] args) {
        Class<?> keeper = AssumptionKeeper.class;
        due("the class is not public and final",
                Modifier.isPublic(keeper.getModifiers()) && Modifier.isFinal(keeper.getModifiers()));
        due("the class stands in a package", keeper.getPackageName().isEmpty());
        checkMethods(keeper);
        Constructor<?>[] constructors = keeper.getDeclaredConstructors();
        due("not one constructor", constructors.length == 1);
        due("the constructor is not public or takes something",
                Modifier.isPublic(constructors[0].getModifiers()) && constructors[0].getParameterCount() == 0);
        for (Field field : keeper.getDeclaredFields()) {
            due(field + " can be seen", Modifier.isPrivate(field.getModifiers()));
            due(field + " is static and not final",
                    !Modifier.isStatic(field.getModifiers()) || Modifier.isFinal(field.getModifiers()));
        }
        if (wrong > 0) {
            System.exit(1);
        }
    }
}
