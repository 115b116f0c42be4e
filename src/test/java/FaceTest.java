import java.lang.reflect.Constructor;
import java.lang.reflect.Field;
import java.lang.reflect.Method;
import java.lang.reflect.Modifier;
import java.util.Arrays;
import java.util.Set;
import java.util.TreeSet;

/** The public face of the document, and LANGUAGE.md's rule 1 on it. */
public final class FaceTest {
    private static final String BOTH = " IllegalArgumentException IllegalStateException";
    private static final String STATE = " IllegalStateException";

    private static final Set<String> FACE = Set.of(
            "int area[int, boolean, int]" + BOTH,
            "boolean border[int, int]" + BOTH,
            "void unit[int, int, int]" + BOTH,
            "void start[]" + STATE,
            "int order[int, int, int, int, int]" + BOTH,
            "int resolve[]" + STATE,
            "int result[int]",
            "int retreat[int, int, int]" + BOTH,
            "int build[int, int, int]" + BOTH,
            "int finish[]" + STATE,
            "boolean undo[]",
            "int phase[]",
            "int turn[]",
            "int at[int]",
            "int displaced[int]",
            "boolean mayGo[int, int]",
            "int owner[int]",
            "int count[int, int]",
            "int told[int, int]");

    public static void main(String[] args) {
        Check check = new Check("FaceTest");
        int type = SheetWar.class.getModifiers();
        check.due("public", Modifier.isPublic(type), true);
        check.due("final", Modifier.isFinal(type), true);
        check.due("extends nothing", SheetWar.class.getSuperclass() == Object.class, true);
        check.due("implements nothing", SheetWar.class.getInterfaces().length, 0);
        check.due("NONE", SheetWar.NONE, -1);
        methods(check);
        fields(check);
        Constructor<?>[] makers = SheetWar.class.getDeclaredConstructors();
        check.due("constructors", makers.length, 1);
        check.due("constructor is public", Modifier.isPublic(makers[0].getModifiers()), true);
        check.due("constructor's arguments", makers[0].getParameterCount(), 0);
        check.due("constructor's exceptions", makers[0].getExceptionTypes().length, 0);
        for (Class<?> inside : SheetWar.class.getDeclaredClasses()) {
            int own = inside.getModifiers();
            check.due(inside + " is static", Modifier.isStatic(own), true);
            check.due(inside + " is hidden", Modifier.isPublic(own) || Modifier.isProtected(own), false);
        }
        check.end();
    }

    private static void methods(Check check) {
        Set<String> found = new TreeSet<>();
        Set<String> open = new TreeSet<>();
        Set<String> hidden = new TreeSet<>();
        for (Method method : SheetWar.class.getDeclaredMethods()) {
            if (Modifier.isPrivate(method.getModifiers())) {
                hidden.add(method.getName());
            } else {
                found.add(written(method));
                open.add(method.getName());
                check.due(method.getName() + " is public", Modifier.isPublic(method.getModifiers()), true);
                check.due(method.getName() + " is static", Modifier.isStatic(method.getModifiers()), false);
            }
        }
        for (String due : FACE) {
            check.due(due, found.contains(due), true);
        }
        check.due("methods of the face", found.size(), FACE.size());
        hidden.retainAll(open);
        check.due("private methods with a public one's name", hidden.size(), 0);
    }

    private static String written(Method method) {
        StringBuilder text = new StringBuilder();
        text.append(method.getReturnType()).append(' ').append(method.getName());
        text.append(Arrays.toString(method.getParameterTypes()));
        for (Class<?> thrown : method.getExceptionTypes()) {
            text.append(' ').append(thrown.getSimpleName());
        }
        return text.toString();
    }

    private static void fields(Check check) {
        for (Field field : SheetWar.class.getDeclaredFields()) {
            boolean isConstant = field.getName().equals("NONE");
            check.due(field.getName() + " is public", Modifier.isPublic(field.getModifiers()), isConstant);
            check.due(field.getName() + " is private", Modifier.isPrivate(field.getModifiers()), !isConstant);
            if (isConstant) {
                check.due("NONE is an int", field.getType() == int.class, true);
            }
            if (Modifier.isStatic(field.getModifiers())) {
                check.due(field.getName() + " is final", Modifier.isFinal(field.getModifiers()), true);
            }
        }
    }
}
