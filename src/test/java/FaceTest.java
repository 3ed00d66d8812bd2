import java.lang.reflect.Constructor;
import java.lang.reflect.Field;
import java.lang.reflect.Method;
import java.lang.reflect.Modifier;
import java.util.TreeSet;

/** The class has the face of the document, and no other member that can be seen. */
public final class FaceTest {
    private static final String PLACE = " throws IndexOutOfBoundsException";
    private static final String VALUE = PLACE + " IllegalArgumentException";
    private static final String STATE = VALUE + " IllegalStateException";
    private static final String[] METHODS = {
        "int resize(int int int)" + VALUE, "int range(int int int int int)" + VALUE,
        "int copy(int int int)" + PLACE, "int share(int int int)" + PLACE,
        "int put(int int int int)" + VALUE, "int fill(int int int)" + VALUE,
        "int fillPart(int int int int int)" + VALUE, "int ramp(int int int)" + PLACE,
        "int sort(int int)" + PLACE, "int sortPart(int int int int)" + PLACE,
        "int length(int int)" + PLACE, "int at(int int int)" + PLACE,
        "int search(int int int)" + STATE, "int searchPart(int int int int int)" + STATE,
        "boolean isEqual(int int int)" + PLACE, "boolean isOne(int int int)" + PLACE,
        "int order(int int int)" + PLACE, "int mismatch(int int int)" + PLACE,
        "boolean isEqualFrom(int int int int int)" + VALUE, "int hash(int)" + PLACE,
        "String text(int)" + PLACE, "int putBox(int int int)" + PLACE,
        "int putList(int int int)" + PLACE, "int addList(int int)" + PLACE,
        "int sortBoxes(int boolean)" + PLACE, "int boxAt(int int boolean)" + PLACE,
        "int sizeOf(int)" + PLACE, "int indexOf(int int boolean)" + PLACE,
        "boolean contains(int int)" + PLACE, "boolean areListsEqual()", "int listHash(int)" + PLACE,
        "String listText(int)" + PLACE, "int knock()", "int house(int) throws IllegalArgumentException",
        "boolean isSound()", "long digest()"
    };

    public static void main(String[] args) {
        Check check = new Check();
        TreeSet<String> due = new TreeSet<>();
        for (String method : METHODS) {
            due.add("public " + method);
        }
        check.same("methods that can be seen", seenMethods(), due);
        check.same("the class", Modifier.toString(Rowbench.class.getModifiers()), "public final");
        check.same("constructors", Rowbench.class.getDeclaredConstructors().length, 1);
        for (Constructor<?> constructor : Rowbench.class.getDeclaredConstructors()) {
            check.same("the constructor", constructor.toString(), "public Rowbench()");
        }
        for (Field field : Rowbench.class.getDeclaredFields()) {
            check.same("field " + field.getName(), Modifier.isPrivate(field.getModifiers()), true);
        }
        check.same("private methods with the name of a public one", privateNamesakes(), new TreeSet<String>());
        keepsNothingForAll(check, Rowbench.class);
        check.finish("FaceTest");
    }

    /** LANGUAGE.md, rule 1: "No private method bears the name of a public one." */
    private static TreeSet<String> privateNamesakes() {
        TreeSet<String> publicNames = new TreeSet<>();
        TreeSet<String> privateNames = new TreeSet<>();
        for (Method method : Rowbench.class.getDeclaredMethods()) {
            (Modifier.isPrivate(method.getModifiers()) ? privateNames : publicNames).add(method.getName());
        }
        privateNames.retainAll(publicNames);
        return privateNames;
    }

    /** LANGUAGE.md, rule 5: "Static fields are final", of the classes inside too. */
    private static void keepsNothingForAll(Check check, Class<?> inspected) {
        for (Field field : inspected.getDeclaredFields()) {
            int modifiers = field.getModifiers();
            boolean isKept = Modifier.isStatic(modifiers) && !Modifier.isFinal(modifiers);
            check.same(inspected.getName() + "." + field.getName() + " is kept for all objects", isKept, false);
        }
        for (Class<?> inside : inspected.getDeclaredClasses()) {
            keepsNothingForAll(check, inside);
        }
    }

    private static TreeSet<String> seenMethods() {
        TreeSet<String> seen = new TreeSet<>();
        for (Method method : Rowbench.class.getDeclaredMethods()) {
            if (!Modifier.isPrivate(method.getModifiers())) {
                seen.add(signature(method));
            }
        }
        return seen;
    }

    private static String signature(Method method) {
        String thrown = names(method.getExceptionTypes());
        return Modifier.toString(method.getModifiers()) + " " + method.getReturnType().getSimpleName() + " "
                + method.getName() + "(" + names(method.getParameterTypes()) + ")"
                + (thrown.isEmpty() ? "" : " throws " + thrown);
    }

    private static String names(Class<?>[] types) {
        StringBuilder names = new StringBuilder();
        for (Class<?> type : types) {
            names.append(names.length() == 0 ? "" : " ").append(type.getSimpleName());
        }
        return names.toString();
    }
}
