import java.util.function.Supplier;

/**
 * For each argument of each call the least and the greatest value that it takes, and the first ones
 * beyond them; that a refused call changes nothing; and which error code comes first.
 */
public final class ArgumentsTest {
    private static final int LEAST = Integer.MIN_VALUE;
    private static final int GREATEST = Integer.MAX_VALUE;

    private interface With {
        int call(TabLines x, int value);
    }

    /** An object with something of everything, room for more, and six saved states. */
    private static TabLines some() {
        TabLines x = new TabLines();
        x.setNumber(0, 30);
        x.setNumber(1, 5);
        for (int style = 0; style < 4; style++) {
            x.setIndent(style, 0, style);
            x.setStop(style, 9, 1, 1);
        }
        x.setStop(1, 12, 4, 0);
        x.setStop(1, 20, 3, 2);
        x.addParagraph(0);
        x.addParagraph(1);
        x.addParagraph(3);
        x.addWord(0, 0, 0, 3);
        x.addAmount(1, 1250);
        x.addWord(2, 1, 25, 2);
        Checks.type(x, "r7;");
        return x;
    }

    private static TabLines someWithWords() {
        TabLines x = some();
        x.clearText();
        Checks.type(x, "ab");
        return x;
    }

    private static TabLines nothing() {
        return new TabLines();
    }

    private static void refused(String what, int value, With with) {
        Checks.refused(what + " " + value, ArgumentsTest::some, x -> with.call(x, value),
                Checks.INVALID);
    }

    /** The least and the greatest value, with what is due for them, and those beyond. */
    private static void range(String what, int least, int dueLeast, int greatest, int dueGreatest,
            With with) {
        Checks.due(what + " " + least, with.call(some(), least), dueLeast);
        Checks.due(what + " " + greatest, with.call(some(), greatest), dueGreatest);
        refused(what, least - 1, with);
        refused(what, greatest + 1, with);
        refused(what, LEAST, with);
        refused(what, GREATEST, with);
    }

    /** An argument without a greatest value: from some number on there is NONE. */
    private static void fromZero(String what, int dueZero, int last, int dueLast, With with) {
        Checks.due(what + " 0", with.call(some(), 0), dueZero);
        Checks.due(what + " " + last, with.call(some(), last), dueLast);
        refused(what, -1, with);
        refused(what, LEAST, with);
        int[] beyond = {last + 1, GREATEST};
        for (int value : beyond) {
            Checks.due(what + " " + value, with.call(some(), value), Checks.NONE);
            Checks.unchanged(what + " " + value, ArgumentsTest::some, x -> with.call(x, value));
        }
    }

    private static void numbersAndIndents() {
        Checks.sentence("Returns the previous number; INVALID_ARGUMENT if what or value is out of"
                + " range.");
        range("setNumber what", 0, 30, 1, 5, (x, v) -> x.setNumber(v, 20));
        range("W", 20, 30, 80, 30, (x, v) -> x.setNumber(0, v));
        range("D", 2, 5, 20, 5, (x, v) -> x.setNumber(1, v));
        Checks.sentence("Returns the previous indent; INVALID_ARGUMENT if an argument is out of"
                + " range.");
        range("setIndent style", 0, 0, 3, 3, (x, v) -> x.setIndent(v, 0, 7));
        range("which", 0, 2, 1, 4, (x, v) -> x.setIndent(2, v, 7));
        range("first indent", 0, 3, 19, 3, (x, v) -> x.setIndent(3, 0, v));
        range("hanging indent", 0, 4, 19, 4, (x, v) -> x.setIndent(3, 1, v));
    }

    private static void stops() {
        Checks.sentence("Returns the number of the stop; INVALID_ARGUMENT if an argument is out of"
                + " range; CAPACITY_EXCEEDED if there would be 9 stops.");
        range("setStop style", 0, 1, 3, 1, (x, v) -> x.setStop(v, 40, 0, 0));
        range("position", 1, 0, 80, 3, (x, v) -> x.setStop(1, v, 0, 0));
        range("position of a bar", 1, 0, 80, 3, (x, v) -> x.setStop(1, v, 4, 0));
        range("kind", 0, 2, 4, 2, (x, v) -> x.setStop(1, 15, v, 0));
        for (int kind = 0; kind < 4; kind++) {
            int of = kind;
            range("leader of kind " + kind, 0, 2, 3, 2, (x, v) -> x.setStop(1, 15, of, v));
        }
        Checks.sentence("0 to 3; 0 for a bar");
        range("leader of a bar", 0, 2, 0, 2, (x, v) -> x.setStop(1, 15, 4, v));
        refused("leader of a bar", 3, (x, v) -> x.setStop(1, 15, 4, v));
        refused("leader of a bar in place of another", 1, (x, v) -> x.setStop(1, 9, 4, v));
        Checks.sentence("Returns the number of stops that are left; INVALID_ARGUMENT if an argument"
                + " is out of range.");
        range("removeStop style", 0, 0, 3, 0, (x, v) -> x.removeStop(v, 0));
        range("stop", 0, 2, 2, 2, (x, v) -> x.removeStop(1, v));
        Checks.refused("a stop of none", ArgumentsTest::nothing, x -> x.removeStop(0, 0),
                Checks.INVALID);
    }

    private static void text() {
        Checks.sentence("Returns the new length of the text; INVALID_ARGUMENT if character is out"
                + " of range; CAPACITY_EXCEEDED if the text has 100 characters.");
        range("character", 0, 4, 255, 4, TabLines::appendCharacter);
        Checks.sentence("Returns the number of stops; INVALID_ARGUMENT if style is out of range;"
                + " -1000 minus the error position if the text has an error (then nothing changes,"
                + " and the text is kept).");
        range("loadStops style", 0, 1, 3, 1, TabLines::loadStops);
        Checks.refused("a text with an error", ArgumentsTest::someWithWords, x -> x.loadStops(1),
                -1000);
        Checks.refused("text where something is missing", () -> {
            TabLines x = some();
            x.appendCharacter('l');
            return x;
        }, x -> x.loadStops(1), -1004);
        Checks.refused("error behind good items", () -> {
            TabLines x = some();
            Checks.type(x, "l8;m30-;x");
            return x;
        }, x -> x.loadStops(1), -1011);
    }

    private static void paragraphs() {
        Checks.sentence("Returns its number; INVALID_ARGUMENT if style is out of range;"
                + " CAPACITY_EXCEEDED if there are 8 paragraphs.");
        range("addParagraph style", 0, 3, 3, 3, TabLines::addParagraph);
        Checks.sentence("Returns the number of paragraphs that are left; INVALID_ARGUMENT if there"
                + " is no such paragraph.");
        range("removeParagraph", 0, 2, 2, 2, TabLines::removeParagraph);
        Checks.sentence("Returns the previous style; INVALID_ARGUMENT if an argument is out of"
                + " range.");
        range("setStyle paragraph", 0, 0, 2, 3, (x, v) -> x.setStyle(v, 2));
        range("setStyle style", 0, 1, 3, 1, (x, v) -> x.setStyle(1, v));
    }

    private static void texts() {
        Checks.sentence("Returns the length of the text; INVALID_ARGUMENT if there is no such"
                + " paragraph; -2000 minus the offset of the first character of the text that a"
                + " paragraph cannot have; CAPACITY_EXCEEDED if the text is longer than 80"
                + " characters.");
        Checks.due("takeText 0", someWithWords().takeText(0), 2);
        Checks.due("takeText 2", someWithWords().takeText(2), 2);
        int[] none = {-1, 3, LEAST, GREATEST};
        for (int paragraph : none) {
            Checks.refused("takeText " + paragraph, ArgumentsTest::someWithWords,
                    x -> x.takeText(paragraph), Checks.INVALID);
        }
        Checks.refused("a text with \";\"", ArgumentsTest::some, x -> x.takeText(1), -2002);
        Checks.sentence("Returns the length of its text then; INVALID_ARGUMENT if an argument is"
                + " out of range; CAPACITY_EXCEEDED if it would be more than 80.");
        range("addWord paragraph", 0, 8, 2, 7, (x, v) -> x.addWord(v, 0, 0, 3));
        range("tab", 0, 10, 1, 10, (x, v) -> x.addWord(1, v, 0, 3));
        range("letter", 0, 10, 25, 10, (x, v) -> x.addWord(1, 0, v, 3));
        range("length", 1, 8, 30, 37, (x, v) -> x.addWord(1, 1, 25, v));
        range("addAmount paragraph", 0, 9, 2, 8, (x, v) -> x.addAmount(v, 100));
        range("hundredths", 0, 11, 9999999, 15, (x, v) -> x.addAmount(1, v));
    }

    private static void looking() {
        Checks.sentence("Returns the number; INVALID_ARGUMENT if what is out of range.");
        range("count what", 0, 30, 5, 6, TabLines::count);
        Checks.sentence("Returns the property; INVALID_ARGUMENT if an argument is out of range.");
        range("style style", 0, 0, 3, 3, (x, v) -> x.style(v, 0));
        range("style what", 0, 1, 3, 25, (x, v) -> x.style(1, v));
        Checks.sentence("Returns the property; INVALID_ARGUMENT if style or what is out of range or"
                + " stop is negative; NONE if there are not so many.");
        range("stop style", 0, 9, 3, 9, (x, v) -> x.stop(v, 0, 0));
        range("stop what", 0, 20, 2, 2, (x, v) -> x.stop(1, 2, v));
        for (int what = 0; what < 3; what++) {
            int of = what;
            int[] first = {9, 1, 1};
            int[] last = {20, 3, 2};
            fromZero("stop", first[what], 2, last[what], (x, v) -> x.stop(1, v, of));
        }
        Checks.sentence("Returns its code; INVALID_ARGUMENT if there is no such paragraph or index"
                + " is negative; NONE if there are not so many.");
        range("character paragraph", 0, ' ', 2, 9, (x, v) -> x.character(v, 0));
        fromZero("character index", 9, 5, '0', (x, v) -> x.character(1, v));
    }

    private static void lines() {
        Checks.sentence("Returns the number, at least 1; INVALID_ARGUMENT if there is no such"
                + " paragraph.");
        range("lines", 0, 1, 2, 1, TabLines::lines);
        Checks.sentence("Returns its character code; INVALID_ARGUMENT if there is no such paragraph,"
                + " line is negative or column is out of range; NONE if there are not so many"
                + " lines.");
        range("cell paragraph", 0, 'a', 2, ' ', (x, v) -> x.cell(v, 0, 0));
        range("cell column", 0, 'a', 29, ' ', (x, v) -> x.cell(0, 0, v));
        fromZero("cell line", 'a', 0, 'a', (x, v) -> x.cell(0, v, 0));
        Checks.sentence("Returns the property; INVALID_ARGUMENT if there is no such paragraph,"
                + " field is negative or what is out of range; NONE if there are not so many"
                + " fields.");
        range("field paragraph", 0, 0, 2, 3, (x, v) -> x.field(v, 0, 1));
        range("field what", 0, 0, 5, 0, (x, v) -> x.field(2, 1, v));
        for (int what = 0; what < 6; what++) {
            int of = what;
            int[] first = {0, 3, 0, -9, -9, -9};
            int[] last = {0, 7, 2, 9, 1, 0};
            fromZero("field", first[what], 1, last[what], (x, v) -> x.field(2, v, of));
        }
        Checks.sentence("Returns the number; INVALID_ARGUMENT if an argument is out of range.");
        range("holds paragraph", 0, 3, 2, 2, (x, v) -> x.holds(v, 0));
        range("holds what", 0, 3, 3, 27, (x, v) -> x.holds(0, v));
        range("linesWith paragraph", 0, 1, 2, 1, (x, v) -> x.linesWith(v, 40));
        range("columns", 20, 1, 80, 1, (x, v) -> x.linesWith(1, v));
        Checks.sentence("Returns the least W, 20 to 80; INVALID_ARGUMENT if an argument is out of"
                + " range; NONE if there is none.");
        range("leastColumns paragraph", 0, 20, 2, 20, (x, v) -> x.leastColumns(v, 1));
        range("leastColumns lines", 1, 20, 99, 20, (x, v) -> x.leastColumns(1, v));
    }

    private static void columnsOfLines() {
        Checks.sentence("0 to W - 1");
        int[] widths = {20, 21, 79, 80};
        for (int w : widths) {
            TabLines x = some();
            x.setNumber(0, w);
            Checks.due("first column with W " + w, x.cell(0, 0, 0), 'a');
            Checks.due("last column with W " + w, x.cell(0, 0, w - 1), ' ');
            Checks.due("column W with W " + w, x.cell(0, 0, w), Checks.INVALID);
            Checks.due("column -1 with W " + w, x.cell(0, 0, -1), Checks.INVALID);
        }
    }

    private static void withoutParagraphs() {
        Checks.sentence("An argument is out of range, or names something that does not exist.");
        Checks.Call[] calls = {x -> x.removeParagraph(0), x -> x.setStyle(0, 0),
            x -> x.takeText(0), x -> x.addWord(0, 0, 0, 1), x -> x.addAmount(0, 1),
            x -> x.character(0, 0), x -> x.lines(0), x -> x.cell(0, 0, 0), x -> x.field(0, 0, 0),
            x -> x.holds(0, 0), x -> x.linesWith(0, 40), x -> x.leastColumns(0, 1)};
        for (int i = 0; i < calls.length; i++) {
            Checks.refused("call " + i + " without paragraphs", ArgumentsTest::nothing, calls[i],
                    Checks.INVALID);
        }
    }

    /** An object where nothing has room: 8 stops, 8 paragraphs, 80 and 100 characters, 6 states. */
    private static TabLines full() {
        TabLines x = new TabLines();
        for (int position = 1; position <= 8; position++) {
            x.setStop(1, position, 0, 0);
        }
        for (int paragraph = 0; paragraph < 8; paragraph++) {
            x.addParagraph(1);
        }
        x.addWord(7, 0, 0, 30);
        x.addWord(7, 0, 1, 30);
        x.addWord(7, 1, 2, 17);
        Checks.type(x, "l9;" + " ".repeat(97));
        return x;
    }

    private static TabLines fullOfLetters() {
        TabLines x = full();
        x.clearText();
        Checks.type(x, "l9" + " ".repeat(79));
        return x;
    }

    private static TabLines fullOfWrongSigns() {
        TabLines x = full();
        x.clearText();
        Checks.type(x, "a".repeat(99) + "A");
        return x;
    }

    private static void first(String what, Supplier<TabLines> made, Checks.Call call) {
        Checks.refused(what, made, call, Checks.INVALID);
    }

    private static void orderOfCodes() {
        Checks.sentence("A method that returns an error code changes nothing. If several error codes"
                + " apply, the one that is named first in the description of the method is"
                + " returned");
        Checks.refused("setStop", ArgumentsTest::full, x -> x.setStop(1, 9, 0, 0), Checks.FULL);
        first("setStop position", ArgumentsTest::full, x -> x.setStop(1, 81, 0, 0));
        first("setStop kind", ArgumentsTest::full, x -> x.setStop(1, 9, 5, 0));
        first("setStop leader", ArgumentsTest::full, x -> x.setStop(1, 9, 0, 4));
        first("setStop bar", ArgumentsTest::full, x -> x.setStop(1, 9, 4, 1));
        Checks.refused("appendCharacter", ArgumentsTest::full, x -> x.appendCharacter('a'),
                Checks.FULL);
        first("appendCharacter", ArgumentsTest::full, x -> x.appendCharacter(256));
        first("appendCharacter", ArgumentsTest::full, x -> x.appendCharacter(-1));
        first("loadStops", ArgumentsTest::fullOfLetters, x -> x.loadStops(4));
        Checks.refused("loadStops", ArgumentsTest::fullOfLetters, x -> x.loadStops(3), -1081);
        Checks.refused("addParagraph", ArgumentsTest::full, x -> x.addParagraph(0), Checks.FULL);
        first("addParagraph", ArgumentsTest::full, x -> x.addParagraph(4));
        first("takeText, wrong sign", ArgumentsTest::fullOfWrongSigns, x -> x.takeText(8));
        first("takeText, no room", ArgumentsTest::fullOfLetters, x -> x.takeText(-1));
        Checks.refused("takeText", ArgumentsTest::fullOfWrongSigns, x -> x.takeText(7), -2099);
        Checks.refused("takeText", ArgumentsTest::fullOfLetters, x -> x.takeText(7), Checks.FULL);
        Checks.refused("addWord", ArgumentsTest::full, x -> x.addWord(7, 0, 0, 1), Checks.FULL);
        first("addWord tab", ArgumentsTest::full, x -> x.addWord(7, 2, 0, 1));
        first("addWord letter", ArgumentsTest::full, x -> x.addWord(7, 0, 26, 1));
        first("addWord length", ArgumentsTest::full, x -> x.addWord(7, 0, 0, 31));
        Checks.refused("addAmount", ArgumentsTest::full, x -> x.addAmount(7, 0), Checks.FULL);
        first("addAmount", ArgumentsTest::full, x -> x.addAmount(7, -1));
        first("addAmount", ArgumentsTest::full, x -> x.addAmount(7, 10000000));
    }

    private static void noneComesLast() {
        Checks.sentence("NONE is no error, and it is returned only if no error code applies.");
        first("stop style", ArgumentsTest::some, x -> x.stop(4, 9, 0));
        first("stop what", ArgumentsTest::some, x -> x.stop(0, 9, 3));
        first("character paragraph", ArgumentsTest::some, x -> x.character(3, 99));
        first("cell paragraph", ArgumentsTest::some, x -> x.cell(3, 9, 0));
        first("cell column", ArgumentsTest::some, x -> x.cell(0, 9, 30));
        first("cell column", ArgumentsTest::some, x -> x.cell(0, 9, -1));
        first("field paragraph", ArgumentsTest::some, x -> x.field(-1, 9, 0));
        first("field what", ArgumentsTest::some, x -> x.field(0, 9, 6));
        first("leastColumns paragraph", ArgumentsTest::longWord, x -> x.leastColumns(1, 1));
        first("leastColumns lines", ArgumentsTest::longWord, x -> x.leastColumns(0, 0));
        Checks.due("none", longWord().leastColumns(0, 1), Checks.NONE);
    }

    /** A paragraph that has no room in one line of any W. */
    private static TabLines longWord() {
        TabLines x = new TabLines();
        x.setIndent(0, 0, 1);
        x.addParagraph(0);
        Checks.write(x, 0, "a".repeat(80));
        return x;
    }

    public static void main(String[] args) {
        numbersAndIndents();
        stops();
        text();
        paragraphs();
        texts();
        looking();
        lines();
        columnsOfLines();
        withoutParagraphs();
        orderOfCodes();
        noneComesLast();
        Checks.end();
    }
}
