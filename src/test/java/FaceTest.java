import java.lang.reflect.Constructor;
import java.lang.reflect.Field;
import java.lang.reflect.Method;
import java.lang.reflect.Modifier;
import java.util.ArrayList;
import java.util.Collections;
import java.util.List;

/** The class shows the face that the document gives, and nothing else. */
public final class FaceTest {
    private static final String[] DUE = {
        "constant INVALID_ARGUMENT = -1", "constant ILLEGAL_STATE = -2",
        "constant CAPACITY_EXCEEDED = -3", "constant NONE = -9", "constructor 0",
        "setNumber 2", "setIndent 3", "setStop 4", "removeStop 2", "appendCharacter 1",
        "clearText 0", "loadStops 1", "addParagraph 1", "removeParagraph 1", "setStyle 2",
        "takeText 1", "addWord 4", "addAmount 2", "count 1", "style 2", "stop 3", "character 2",
        "lines 1", "cell 3", "field 3", "holds 2", "linesWith 2", "leastColumns 2", "undo 0",
    };

    private static boolean allInts(Class<?>[] types) {
        for (Class<?> type : types) {
            if (type != int.class) {
                return false;
            }
        }
        return true;
    }

    private static List<String> face() throws IllegalAccessException {
        List<String> face = new ArrayList<>();
        for (Field field : TabLines.class.getDeclaredFields()) {
            int modifiers = field.getModifiers();
            boolean constant = Modifier.isPublic(modifiers) && Modifier.isStatic(modifiers)
                    && Modifier.isFinal(modifiers) && field.getType() == int.class;
            if (constant) {
                face.add("constant " + field.getName() + " = " + field.getInt(null));
            } else if (!Modifier.isPrivate(modifiers)) {
                face.add("field " + field.getName());
            }
        }
        for (Constructor<?> constructor : TabLines.class.getDeclaredConstructors()) {
            if (!Modifier.isPrivate(constructor.getModifiers())) {
                face.add("constructor " + constructor.getParameterCount());
            }
        }
        for (Method method : TabLines.class.getDeclaredMethods()) {
            if (!Modifier.isPrivate(method.getModifiers()) && !method.isSynthetic()) {
                boolean plain = method.getModifiers() == Modifier.PUBLIC
                        && method.getReturnType() == int.class
                        && allInts(method.getParameterTypes());
                face.add((plain ? "" : "strange ") + method.getName() + " "
                        + method.getParameterCount());
            }
        }
        return face;
    }

    private static int hiddenNamesakes() {
        int wrong = 0;
        for (Method method : TabLines.class.getDeclaredMethods()) {
            for (Method other : TabLines.class.getDeclaredMethods()) {
                if (Modifier.isPrivate(method.getModifiers())
                        && !Modifier.isPrivate(other.getModifiers())
                        && method.getName().equals(other.getName())) {
                    System.out.println("a private method is named " + method.getName());
                    wrong++;
                }
            }
        }
        return wrong;
    }

    public static void main(String[] args) throws IllegalAccessException {
        List<String> due = new ArrayList<>(List.of(DUE));
        List<String> got = face();
        Collections.sort(due);
        Collections.sort(got);
        int wrong = hiddenNamesakes();
        if (!due.equals(got)) {
            System.out.println("the face is\n" + got + ", due is\n" + due);
            wrong++;
        }
        int modifiers = TabLines.class.getModifiers();
        if (!Modifier.isPublic(modifiers) || !Modifier.isFinal(modifiers)) {
            System.out.println("the class is not public and final");
            wrong++;
        }
        System.out.println(wrong == 0 ? "the face is as due" : "the face is not as due");
        if (wrong != 0) {
            System.exit(1);
        }
    }
}
