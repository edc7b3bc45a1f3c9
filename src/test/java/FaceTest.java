import java.lang.reflect.Constructor;
import java.lang.reflect.Field;
import java.lang.reflect.Method;
import java.lang.reflect.Modifier;
import java.util.Arrays;
import java.util.TreeSet;

/** The face of HintPlacer is the document's, and nothing else is to be seen of it. */
public final class FaceTest {
    private static int wrong = 0;

    public static void main(String[] args) {
        same("constants", constants(), "INVALID_ARGUMENT=-10001 LIMIT_REACHED=-10003 NOT_FOUND=-10004 NOT_POSSIBLE=-10002");
        same("constructors", constructors(), "public HintPlacer()");
        same("methods", methods(), "alter/3 anchor/4 anchorOf/2 at/2 carry/0 clearText/0 close/1 count/1 fault/1"
            + " hint/5 hintOf/2 ifOn/3 moveAnchor/3 open/1 room/2 scroll/2 set/2 settle/0 sizeFor/2 type/1 undo/0 view/2");
        same("class", Modifier.toString(HintPlacer.class.getModifiers()), "public final");
        hiddenMembers();
        innerClasses();
        if (wrong != 0) {
            System.out.println(wrong + " answers are not as due");
            System.exit(1);
        }
    }

    private static void same(String what, String got, String want) {
        if (!got.equals(want)) {
            wrong++;
            System.out.println(what + ": " + got + ", due: " + want);
        }
    }

    private static String constants() {
        TreeSet<String> found = new TreeSet<>();
        try {
            for (Field field : HintPlacer.class.getDeclaredFields()) {
                if (Modifier.isPublic(field.getModifiers())) {
                    found.add(field.getName() + "=" + field.getInt(null));
                }
            }
        } catch (IllegalAccessException e) {
            found.add(e.toString());
        }
        return String.join(" ", found);
    }

    private static String constructors() {
        StringBuilder found = new StringBuilder();
        for (Constructor<?> constructor : HintPlacer.class.getDeclaredConstructors()) {
            found.append(constructor.toString());
        }
        return found.toString();
    }

    private static String methods() {
        TreeSet<String> found = new TreeSet<>();
        for (Method method : HintPlacer.class.getDeclaredMethods()) {
            if (Modifier.isPublic(method.getModifiers())) {
                found.add(method.getName() + "/" + method.getParameterCount());
                same("the answer of " + method.getName(), method.getReturnType().toString(), "int");
            }
        }
        return String.join(" ", found);
    }

    private static void hiddenMembers() {
        TreeSet<String> open = new TreeSet<>();
        for (Method method : HintPlacer.class.getDeclaredMethods()) {
            if (Modifier.isPublic(method.getModifiers())) {
                open.add(method.getName());
            }
        }
        for (Method method : HintPlacer.class.getDeclaredMethods()) {
            int modifiers = method.getModifiers();
            boolean hidden = Modifier.isPrivate(modifiers) && !open.contains(method.getName());
            same("method " + method.getName() + " is hidden", "" + (Modifier.isPublic(modifiers) || hidden), "true");
        }
        for (Field field : HintPlacer.class.getDeclaredFields()) {
            int modifiers = field.getModifiers();
            boolean fits = Modifier.isPublic(modifiers) || Modifier.isPrivate(modifiers);
            same("field " + field.getName() + " is hidden", "" + fits, "true");
            boolean steady = !Modifier.isStatic(modifiers) || Modifier.isFinal(modifiers);
            same("static field " + field.getName() + " is final", "" + steady, "true");
        }
    }

    private static void innerClasses() {
        for (Class<?> inner : HintPlacer.class.getDeclaredClasses()) {
            int modifiers = inner.getModifiers();
            boolean fits = Modifier.isStatic(modifiers) && !Modifier.isPublic(modifiers) && !Modifier.isProtected(modifiers);
            same("class " + inner.getName() + " is static and hidden", "" + fits, "true");
            boolean small = inner.getDeclaredFields().length <= 20 && Arrays.stream(inner.getDeclaredConstructors())
                .allMatch(constructor -> constructor.getParameterCount() <= 7);
            same("class " + inner.getName() + " is small", "" + small, "true");
        }
        same("few classes inside", "" + (HintPlacer.class.getDeclaredClasses().length < 12), "true");
    }
}
