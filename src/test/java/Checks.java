import java.io.IOException;
import java.nio.charset.StandardCharsets;
import java.nio.file.Files;
import java.nio.file.Path;
import java.util.ArrayList;
import java.util.List;
import java.util.function.Supplier;

/**
 * What the tests of the edges share: the sentence of the document that is looked at, and
 * comparisons of answers, of all that an object shows, and of whole lines.
 */
final class Checks {
    static final int INVALID = TabLines.INVALID_ARGUMENT;
    static final int ILLEGAL = TabLines.ILLEGAL_STATE;
    static final int FULL = TabLines.CAPACITY_EXCEEDED;
    static final int NONE = TabLines.NONE;
    static final int MOST_SAVED = 6;
    static final int MOST_CHARACTERS = 80;

    private static final Path DOCUMENT = Path.of("../shared/DOC.md");
    // What an object answers behind this many calls is free.
    private static final int MOST_CALLS = 512;

    private static String document = null;
    private static String sentence = "";
    private static int sentences = 0;
    private static int compared = 0;
    private static int wrong = 0;

    private Checks() {
    }

    /** One call, or a few, on an object. */
    interface Call {
        int on(TabLines x);
    }

    /** From here on, this sentence is tested; it has to stand in the document. */
    static void sentence(String quoted) {
        sentence = quoted;
        sentences++;
        if (document == null) {
            document = readDocument();
        }
        // Without the document the answers can be tested all the same.
        if (!document.isEmpty() && !document.contains(quoted)) {
            complain("the document does not say this");
        }
    }

    private static String readDocument() {
        try {
            return Files.readString(DOCUMENT, StandardCharsets.UTF_8);
        } catch (IOException e) {
            System.out.println("the sentences are not looked up, no document from here: " + e);
            return "";
        }
    }

    private static void complain(String text) {
        wrong++;
        System.out.println("\"" + sentence + "\": " + text);
    }

    static void due(String what, int got, int due) {
        compared++;
        if (got != due) {
            complain(what + " answered " + got + ", due is " + due);
        }
    }

    /** Tells what was found, and ends with the code 1 if something was wrong. */
    static void end() {
        System.out.println(sentences + " sentences, " + compared + " comparisons, " + wrong
                + " wrong");
        if (wrong != 0) {
            System.exit(1);
        }
    }

    static void type(TabLines x, String text) {
        for (int i = 0; i < text.length(); i++) {
            x.appendCharacter(text.charAt(i));
        }
    }

    /** Gives a paragraph a text. */
    static void write(TabLines x, int paragraph, String text) {
        x.clearText();
        type(x, text);
        due("takeText of <" + text + ">", x.takeText(paragraph), text.length());
    }

    /** Gives a style stops, like "r12.;b30;". */
    static void stops(TabLines x, int style, String text) {
        x.clearText();
        type(x, text);
        int items = text.length() - text.replace(";", "").length();
        due("loadStops of <" + text + ">", x.loadStops(style), items);
    }

    static String textOf(TabLines x, int paragraph) {
        StringBuilder text = new StringBuilder();
        int sign = x.character(paragraph, 0);
        while (sign >= 0 && text.length() <= MOST_CHARACTERS) {
            text.append((char) sign);
            sign = x.character(paragraph, text.length());
        }
        return text.toString();
    }

    static void dueText(TabLines x, int paragraph, String due) {
        compared++;
        String got = textOf(x, paragraph);
        if (!got.equals(due)) {
            complain("the text of " + paragraph + " is <" + got + ">, due is <" + due + ">");
        }
    }

    static void dueStop(TabLines x, int style, int stop, int position, int kind, int leader) {
        due("position of stop " + stop, x.stop(style, stop, 0), position);
        due("kind of stop " + stop, x.stop(style, stop, 1), kind);
        due("leader of stop " + stop, x.stop(style, stop, 2), leader);
    }

    static void dueField(TabLines x, int paragraph, int field, int... properties) {
        for (int what = 0; what < properties.length; what++) {
            dueOf(x, paragraph, "field(" + paragraph + ", " + field + ", " + what + ")",
                    x.field(paragraph, field, what), properties[what]);
        }
    }

    /** Tells the text of the paragraph if the answer is wrong, and takes no calls if it is right. */
    private static void dueOf(TabLines x, int paragraph, String what, int got, int due) {
        String of = got == due ? "" : " of <" + textOf(x, paragraph) + ">";
        due(what + of, got, due);
    }

    /** Compares all lines of a paragraph; spaces at the end of a line may be left out. */
    static void dueLines(TabLines x, int paragraph, String... lines) {
        dueOf(x, paragraph, "lines", x.lines(paragraph), lines.length);
        int columns = x.count(0);
        for (int line = 0; line < lines.length; line++) {
            StringBuilder got = new StringBuilder();
            for (int column = 0; column < columns; column++) {
                got.append((char) x.cell(paragraph, line, column));
            }
            String due = lines[line] + " ".repeat(Math.max(0, columns - lines[line].length()));
            compared++;
            if (!got.toString().equals(due)) {
                complain("line " + line + " is\n<" + got + ">, due is\n<" + due + ">");
            }
        }
    }

    /** All that undo() brings back, as far as looking calls show it. */
    static List<Integer> look(TabLines x) {
        List<Integer> all = new ArrayList<>();
        for (int what = 0; what < 4; what++) {
            all.add(x.count(what));
        }
        all.add(x.count(5));
        for (int style = 0; style < 4; style++) {
            for (int what = 0; what < 4; what++) {
                all.add(x.style(style, what));
            }
            for (int stop = 0; stop < x.style(style, 2); stop++) {
                for (int what = 0; what < 3; what++) {
                    all.add(x.stop(style, stop, what));
                }
            }
        }
        for (int paragraph = 0; paragraph < x.count(2); paragraph++) {
            lookAt(x, paragraph, all);
        }
        return all;
    }

    private static void lookAt(TabLines x, int paragraph, List<Integer> all) {
        all.add(x.lines(paragraph));
        all.add(x.holds(paragraph, 2));
        String text = textOf(x, paragraph);
        for (int i = 0; i < text.length(); i++) {
            all.add((int) text.charAt(i));
        }
        // The column of the field 0 is the first indent of the paragraph's style.
        all.add(x.field(paragraph, 0, 1));
    }

    static void same(String what, List<Integer> got, List<Integer> due) {
        compared++;
        if (!got.equals(due)) {
            complain(what + ": the object shows " + got + ", due is " + due);
        }
    }

    /** A call that answers this error code, and changes nothing. */
    static void refused(String what, Supplier<TabLines> made, Call call, int code) {
        due(what, call.on(made.get()), code);
        unchanged(what, made, call);
    }

    /**
     * Compares an object behind the call with one without it: what both show now and behind each
     * undo(), and what their text is. Each comparison takes new objects, to stay below 512 calls.
     */
    static void unchanged(String what, Supplier<TabLines> made, Call call) {
        for (int undone = 0; undone <= MOST_SAVED; undone++) {
            TabLines x = made.get();
            call.on(x);
            TabLines y = made.get();
            for (int i = 0; i < undone; i++) {
                due("undo() behind " + what, x.undo(), y.undo());
            }
            List<Integer> shown = look(y);
            due("too many calls", shown.size() < MOST_CALLS / 2 ? 0 : shown.size(), 0);
            same(what + ", undone " + undone, look(x), shown);
            due("length of the text behind " + what, x.count(4), y.count(4));
        }
        TabLines x = made.get();
        call.on(x);
        TabLines y = made.get();
        due("the text as stops behind " + what, x.loadStops(3), y.loadStops(3));
        same("the text as stops behind " + what, look(x), look(y));
        x = made.get();
        call.on(x);
        y = made.get();
        due("the text as text behind " + what, x.takeText(0), y.takeText(0));
        same("the text as text behind " + what, look(x), look(y));
    }
}
