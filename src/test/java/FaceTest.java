import java.io.IOException;
import java.lang.reflect.Constructor;
import java.lang.reflect.Field;
import java.lang.reflect.Method;
import java.lang.reflect.Modifier;
import java.nio.charset.StandardCharsets;
import java.nio.file.Files;
import java.nio.file.Path;
import java.util.ArrayList;
import java.util.Collections;
import java.util.List;
import java.util.regex.Matcher;
import java.util.regex.Pattern;

/** The class shows the face that the document gives, and nothing else. */
public final class FaceTest {
    private static final String[] DUE = {
        "constant INVALID_ARGUMENT = -1", "constant ILLEGAL_STATE = -2",
        "constant CAPACITY_EXCEEDED = -3", "constant NONE = -9", "constructor 0",
        "setNumber 2", "setIndent 3", "setStop 4", "removeStop 2", "appendCharacter 1",
        "clearText 0", "loadStops 1", "addParagraph 1", "removeParagraph 1", "setStyle 2",
        "takeText 1", "addWord 4", "addAmount 2", "count 1", "style 2", "stop 3", "character 2",
        "lines 1", "cell 3", "field 3", "holds 2", "linesWith 2", "leastColumns 2", "undo 0",
    };

    private static final Path DOCUMENT = Path.of("../shared/DOC.md");
    private static final Pattern CONSTANT =
            Pattern.compile("    public static final int (\\w+ = -?\\d+);");
    private static final Pattern CONSTRUCTOR = Pattern.compile("    public TabLines\\(\\);");
    private static final Pattern METHOD =
            Pattern.compile("    public int (\\w+)\\(((?:int \\w+(?:, )?)*)\\);");

    /** The face as the document writes it; without the document, the one that is due here. */
    private static List<String> documented() throws IOException {
        if (!Files.exists(DOCUMENT)) {
            System.out.println("the face is not looked up, no document from here");
            return List.of(DUE);
        }
        String text = Files.readString(DOCUMENT, StandardCharsets.UTF_8);
        String begin = "```java\npublic final class TabLines {\n";
        int from = text.indexOf(begin);
        int to = text.indexOf("}\n```", from);
        if (from < 0 || to < 0) {
            return List.of();
        }
        List<String> face = new ArrayList<>();
        for (String line : text.substring(from + begin.length(), to).split("\n")) {
            Matcher constant = CONSTANT.matcher(line);
            Matcher method = METHOD.matcher(line);
            if (constant.matches()) {
                face.add("constant " + constant.group(1));
            } else if (CONSTRUCTOR.matcher(line).matches()) {
                face.add("constructor 0");
            } else if (method.matches()) {
                String list = method.group(2);
                face.add(method.group(1) + " " + (list.isEmpty() ? 0 : list.split(", ").length));
            } else {
                face.add("another line: " + line);
            }
        }
        return face;
    }

    private static boolean allInts(Class<?>[] types) {
        for (Class<?> type : types) {
            if (type != int.class) {
                return false;
            }
        }
        return true;
    }

    private static List<String> face() throws IllegalAccessException {
        List<String> face = new ArrayList<>();
        for (Field field : TabLines.class.getDeclaredFields()) {
            int modifiers = field.getModifiers();
            boolean constant = Modifier.isPublic(modifiers) && Modifier.isStatic(modifiers)
                    && Modifier.isFinal(modifiers) && field.getType() == int.class;
            if (constant) {
                face.add("constant " + field.getName() + " = " + field.getInt(null));
            } else if (!Modifier.isPrivate(modifiers)) {
                face.add("field " + field.getName());
            }
        }
        for (Constructor<?> constructor : TabLines.class.getDeclaredConstructors()) {
            if (!Modifier.isPrivate(constructor.getModifiers())) {
                face.add("constructor " + constructor.getParameterCount());
            }
        }
        for (Method method : TabLines.class.getDeclaredMethods()) {
            if (!Modifier.isPrivate(method.getModifiers()) && !method.isSynthetic()) {
                boolean plain = method.getModifiers() == Modifier.PUBLIC
                        && method.getReturnType() == int.class
                        && allInts(method.getParameterTypes());
                face.add((plain ? "" : "strange ") + method.getName() + " "
                        + method.getParameterCount());
            }
        }
        return face;
    }

    private static int hiddenNamesakes() {
        int wrong = 0;
        for (Method method : TabLines.class.getDeclaredMethods()) {
            for (Method other : TabLines.class.getDeclaredMethods()) {
                if (Modifier.isPrivate(method.getModifiers())
                        && !Modifier.isPrivate(other.getModifiers())
                        && method.getName().equals(other.getName())) {
                    System.out.println("a private method is named " + method.getName());
                    wrong++;
                }
            }
        }
        return wrong;
    }

    public static void main(String[] args) throws IllegalAccessException, IOException {
        List<String> due = new ArrayList<>(List.of(DUE));
        List<String> got = face();
        Collections.sort(due);
        Collections.sort(got);
        int wrong = hiddenNamesakes();
        if (!documented().equals(List.of(DUE))) {
            System.out.println("the document's face is\n" + documented());
            wrong++;
        }
        if (!due.equals(got)) {
            System.out.println("the face is\n" + got + ", due is\n" + due);
            wrong++;
        }
        int modifiers = TabLines.class.getModifiers();
        if (!Modifier.isPublic(modifiers) || !Modifier.isFinal(modifiers)) {
            System.out.println("the class is not public and final");
            wrong++;
        }
        System.out.println(wrong == 0 ? "the face is as due" : "the face is not as due");
        if (wrong != 0) {
            System.exit(1);
        }
    }
}
