import java.lang.reflect.Field;
import java.lang.reflect.Method;
import java.lang.reflect.Modifier;
import java.util.Arrays;
import java.util.Set;
import java.util.TreeSet;

/** The public face is the document's, with nothing else that can be seen from outside. */
public final class FaceTest {
    private static final String[] FACE = {
        "int setBudget(int,int) throws IndexOutOfBoundsException,IllegalArgumentException",
        "int setLimit(int,int,int) throws IndexOutOfBoundsException,IllegalArgumentException",
        "int bill(int,int,int,int) throws IndexOutOfBoundsException,IllegalArgumentException,IllegalStateException",
        "boolean approve(int) throws IndexOutOfBoundsException,IllegalStateException",
        "void dispute(int) throws IndexOutOfBoundsException,IllegalStateException",
        "int note(int,int) throws IndexOutOfBoundsException,IllegalArgumentException",
        "int state(int) throws IndexOutOfBoundsException",
        "int amount(int) throws IndexOutOfBoundsException",
        "int paid(int) throws IndexOutOfBoundsException",
        "int heldBack(int) throws IndexOutOfBoundsException",
        "int offer(int,int) throws IndexOutOfBoundsException,IllegalArgumentException,IllegalStateException",
        "int takeBack(int) throws IndexOutOfBoundsException,IllegalStateException",
        "int plan(int) throws IndexOutOfBoundsException",
        "int clear(int) throws IndexOutOfBoundsException",
        "int most(int) throws IndexOutOfBoundsException,IllegalStateException",
        "int left(int,int) throws IndexOutOfBoundsException",
        "int claim(int,int) throws IndexOutOfBoundsException",
        "float averageDiscount(int) throws IndexOutOfBoundsException,IllegalStateException",
        "int pass(int) throws IllegalArgumentException",
        "int today()",
    };

    private static final Check check = new Check();
    private static final Class<?> DESK = EarlybirdDesk.class;

    public static void main(String[] args) {
        check.is("the class", Modifier.toString(DESK.getModifiers()), "public final");
        check.is("its super class", DESK.getSuperclass(), Object.class);
        check.is("its interfaces", DESK.getInterfaces().length, 0);
        check.is("its constructors", Arrays.toString(DESK.getDeclaredConstructors()),
                "[public EarlybirdDesk()]");
        methods();
        fields();
        for (Class<?> inside : DESK.getDeclaredClasses()) {
            check.is(inside + " is for all to see", Modifier.isPublic(inside.getModifiers()), false);
            check.is(inside + " is static", Modifier.isStatic(inside.getModifiers()), true);
        }
        check.end();
    }

    private static void methods() {
        Set<String> seen = new TreeSet<>();
        Set<String> publicNames = new TreeSet<>();
        Set<String> privateNames = new TreeSet<>();
        for (Method method : DESK.getDeclaredMethods()) {
            if (Modifier.isPrivate(method.getModifiers())) {
                privateNames.add(method.getName());
                continue;
            }
            publicNames.add(method.getName());
            seen.add(signature(method));
        }
        Set<String> due = new TreeSet<>();
        for (String line : FACE) {
            due.add("public " + line);
        }
        check.is("the methods", seen, due);
        privateNames.retainAll(publicNames);
        check.is("private methods with the name of a public one", privateNames, Set.of());
    }

    private static String signature(Method method) {
        StringBuilder text = new StringBuilder(Modifier.toString(method.getModifiers()));
        text.append(' ').append(method.getReturnType()).append(' ').append(method.getName());
        text.append('(').append(names(method.getParameterTypes())).append(')');
        String thrown = names(method.getExceptionTypes());
        return text + (thrown.isEmpty() ? "" : " throws " + thrown);
    }

    private static String names(Class<?>[] types) {
        StringBuilder text = new StringBuilder();
        for (Class<?> type : types) {
            text.append(text.length() == 0 ? "" : ",").append(type.getSimpleName());
        }
        return text.toString();
    }

    private static void fields() {
        for (Field field : DESK.getDeclaredFields()) {
            int modifiers = field.getModifiers();
            check.is(field + " is private", Modifier.isPrivate(modifiers), true);
            if (Modifier.isStatic(modifiers)) {
                check.is(field + " is final", Modifier.isFinal(modifiers), true);
            }
        }
    }
}
