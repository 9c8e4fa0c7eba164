import java.lang.reflect.Constructor;
import java.lang.reflect.Field;
import java.lang.reflect.Method;
import java.lang.reflect.Modifier;
import java.util.Arrays;
import java.util.TreeSet;

/** The class has the face of the document, and no other member that can be seen from outside. */
public final class FaceTest {
    private static final String[] METHODS = {
        "int feed(int, int, int, int, int)",
        "int end(int)",
        "int enter()",
        "boolean remove(int)",
        "boolean mark(int, int)",
        "int tidy()",
        "int stop(boolean)",
        "int document(int, int) throws IndexOutOfBoundsException",
        "int look()",
        "int posting(int)",
        "int bit(int) throws IndexOutOfBoundsException",
        "int count(int)",
        "int letter(int, int) throws IndexOutOfBoundsException",
        "int search()",
        "int hit(int) throws IndexOutOfBoundsException",
        "int rank(int, int) throws IndexOutOfBoundsException",
        "int code(int) throws IndexOutOfBoundsException",
        "int deepest()",
        "int nearest()",
        "int like(int) throws IndexOutOfBoundsException",
    };

    private static int wrong = 0;

    public static void main(String[] args) {
        due("modifiers of the class", Modifier.toString(GammaShelf.class.getModifiers()), "public final");
        due("methods", seenMethods().toString(), new TreeSet<>(Arrays.asList(METHODS)).toString());
        due("constructors", seenConstructors().toString(), "[public GammaShelf()]");
        due("fields", seenFields().toString(), "[public static final int FULL = -2, public static final int NONE = -1]");
        privateNames();
        classesInside();
        System.out.println(wrong == 0 ? "the face is as it must stand" : wrong + " parts of the face are wrong");
        if (wrong != 0) {
            System.exit(1);
        }
    }

    private static void due(String what, String got, String want) {
        if (!got.equals(want)) {
            wrong++;
            System.out.println(what + ": " + got + ", due is " + want);
        }
    }

    private static String names(Class<?>[] types) {
        StringBuilder names = new StringBuilder();
        for (Class<?> type : types) {
            names.append(names.length() == 0 ? "" : ", ").append(type.getSimpleName());
        }
        return names.toString();
    }

    private static TreeSet<String> seenMethods() {
        TreeSet<String> seen = new TreeSet<>();
        for (Method method : GammaShelf.class.getDeclaredMethods()) {
            if (!Modifier.isPrivate(method.getModifiers()) && !method.isSynthetic()) {
                String thrown = names(method.getExceptionTypes());
                String more = Modifier.toString(method.getModifiers()).equals("public") ? "" : Modifier.toString(method.getModifiers()) + " ";
                seen.add(more + method.getReturnType().getSimpleName() + " " + method.getName() + "("
                        + names(method.getParameterTypes()) + ")" + (thrown.isEmpty() ? "" : " throws " + thrown));
            }
        }
        return seen;
    }

    private static TreeSet<String> seenConstructors() {
        TreeSet<String> seen = new TreeSet<>();
        for (Constructor<?> constructor : GammaShelf.class.getDeclaredConstructors()) {
            if (!Modifier.isPrivate(constructor.getModifiers())) {
                seen.add(constructor.toString());
            }
        }
        return seen;
    }

    private static TreeSet<String> seenFields() {
        TreeSet<String> seen = new TreeSet<>();
        for (Field field : GammaShelf.class.getDeclaredFields()) {
            if (!Modifier.isPrivate(field.getModifiers())) {
                seen.add(Modifier.toString(field.getModifiers()) + " " + field.getType() + " " + field.getName() + " = " + valueOf(field));
            } else if (Modifier.isStatic(field.getModifiers()) && !Modifier.isFinal(field.getModifiers())) {
                seen.add("static and not final: " + field.getName());
            }
        }
        return seen;
    }

    private static String valueOf(Field field) {
        try {
            return String.valueOf(field.get(null));
        } catch (IllegalAccessException e) {
            return "not to be read";
        }
    }

    /** No private method bears the name of a public one. */
    private static void privateNames() {
        for (Method method : GammaShelf.class.getDeclaredMethods()) {
            for (String known : METHODS) {
                if (Modifier.isPrivate(method.getModifiers()) && known.contains(" " + method.getName() + "(")) {
                    due("a private method", method.getName(), "another name");
                }
            }
        }
    }

    private static void classesInside() {
        Class<?>[] inside = GammaShelf.class.getDeclaredClasses();
        due("not too many classes", String.valueOf(inside.length < 12), "true");
        for (Class<?> one : inside) {
            int modifiers = one.getModifiers();
            boolean hidden = !Modifier.isPublic(modifiers) && !Modifier.isProtected(modifiers);
            due("class " + one.getSimpleName() + " is hidden and static", String.valueOf(hidden && Modifier.isStatic(modifiers)), "true");
        }
    }
}
