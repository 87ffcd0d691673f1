/** What each call and each of its numbers is for: the sentences that name no boundary case. */
public final class OrdinaryTest {

    /** One paragraph of the style 0 with this text, 20 columns, indents 3 and 5, and a bar. */
    private static TabLines made(String text) {
        TabLines x = new TabLines();
        x.setNumber(0, 20);
        x.setIndent(0, 0, 3);
        x.setIndent(0, 1, 5);
        x.setStop(0, 2, 4, 0);
        x.setStop(0, 14, 1, 2);
        x.addParagraph(0);
        Checks.write(x, 0, text);
        return x;
    }

    private static void constants() {
        Checks.sentence("`INVALID_ARGUMENT = -1`: An argument is out of range, or names something"
                + " that does not exist.");
        Checks.due("constant", TabLines.INVALID_ARGUMENT, -1);
        Checks.due("no such number", new TabLines().count(6), -1);
        Checks.due("no such paragraph", made("a").lines(1), -1);
        Checks.sentence("`ILLEGAL_STATE = -2`: The call is not possible in the present state.");
        Checks.due("constant", TabLines.ILLEGAL_STATE, -2);
        Checks.due("nothing to undo", new TabLines().undo(), -2);
        Checks.sentence("`CAPACITY_EXCEEDED = -3`: There is no room.");
        Checks.due("constant", TabLines.CAPACITY_EXCEEDED, -3);
        Checks.due("no room for a word", made("a".repeat(60)).addWord(0, 0, 0, 20), -3);
        Checks.sentence("`NONE = -9`: There is no such value.");
        Checks.due("constant", TabLines.NONE, -9);
        Checks.due("no such character", made("abc").character(0, 5), -9);
    }

    private static void numbers() {
        Checks.sentence("Sets a number.");
        Checks.sentence("`what`: 0 W, 1 D");
        TabLines x = new TabLines();
        x.addParagraph(2);
        Checks.write(x, 0, "aaaa bbbb cccc dddd eeee\tf");
        Checks.due("setNumber", x.setNumber(1, 10), 8);
        Checks.due("D", x.count(1), 10);
        Checks.due("W", x.count(0), 40);
        Checks.dueLines(x, 0, "aaaa bbbb cccc dddd eeee      f");
        Checks.due("setNumber", x.setNumber(0, 25), 40);
        Checks.due("W", x.count(0), 25);
        Checks.due("D", x.count(1), 10);
        Checks.dueLines(x, 0, "aaaa bbbb cccc dddd eeee", "    f");
        Checks.sentence("what`: 0 W, 1 D, 2 the number of paragraphs, 3 of all lines, 4 the length"
                + " of the text, 5 the number of states that are saved for undo()");
        Checks.sentence("Returns the number; INVALID_ARGUMENT if what is out of range.");
        x.addParagraph(0);
        x.appendCharacter('l');
        int[] due = {25, 10, 2, 3, 1, 5};
        for (int what = 0; what < due.length; what++) {
            Checks.due("count(" + what + ")", x.count(what), due[what]);
        }
    }

    private static void indents() {
        Checks.sentence("A style has a first indent and a hanging indent");
        Checks.sentence("Sets an indent of a style.");
        Checks.sentence("`which`: 0 the first one, 1 the hanging one");
        TabLines x = made("aaaaaa bbbbbb cccccc dddddd");
        Checks.dueLines(x, 0, "  |aaaaaa bbbbbb", "  |  cccccc dddddd");
        Checks.due("the first one", x.setIndent(0, 0, 9), 3);
        Checks.dueLines(x, 0, "  |      aaaaaa", "  |  bbbbbb cccccc", "  |  dddddd");
        Checks.due("the hanging one", x.setIndent(0, 1, 1), 5);
        Checks.dueLines(x, 0, "  |      aaaaaa", " bbbbbb cccccc", " dddddd");
        Checks.due("that of another style", x.setIndent(1, 0, 0), 0);
        Checks.dueLines(x, 0, "  |      aaaaaa", " bbbbbb cccccc", " dddddd");
    }

    private static void styles() {
        Checks.sentence("Returns a property of a style.");
        Checks.sentence("`what`: 0 the first indent, 1 the hanging indent, 2 the number of own"
                + " stops, 3 the position of the first default stop");
        TabLines x = made("");
        int[] due = {3, 5, 2, 16};
        for (int what = 0; what < due.length; what++) {
            Checks.due("style(0, " + what + ")", x.style(0, what), due[what]);
        }
        Checks.sentence("Returns a property of a stop.");
        Checks.sentence("`stop`: 0 for the first own stop");
        Checks.sentence("`what`: 0 its position, 1 its kind, 2 its leader");
        Checks.dueStop(x, 0, 0, 2, 4, 0);
        Checks.dueStop(x, 0, 1, 14, 1, 2);
        Checks.sentence("Removes a stop.");
        Checks.due("removeStop", x.removeStop(0, 0), 1);
        Checks.dueStop(x, 0, 0, 14, 1, 2);
        Checks.due("stop 1", x.stop(0, 1, 0), Checks.NONE);
        Checks.due("own stops", x.style(0, 2), 1);
        Checks.due("first default stop", x.style(0, 3), 16);
        Checks.due("removeStop", x.removeStop(0, 0), 0);
        Checks.due("first default stop", x.style(0, 3), 8);
    }

    private static void texts() {
        Checks.sentence("Appends a character to the text.");
        Checks.sentence("`character`: character code, 0 to 255");
        TabLines x = made("");
        Checks.due("appendCharacter", x.appendCharacter('x'), 1);
        Checks.due("appendCharacter", x.appendCharacter('\t'), 2);
        Checks.due("appendCharacter", x.appendCharacter('7'), 3);
        Checks.due("takeText", x.takeText(0), 3);
        Checks.sentence("Returns a character of the text of a paragraph.");
        Checks.due("character 0", x.character(0, 0), 'x');
        Checks.due("character 1", x.character(0, 1), 9);
        Checks.due("character 2", x.character(0, 2), '7');
        Checks.due("character 3", x.character(0, 3), Checks.NONE);
        Checks.due("a character that no text can have", x.appendCharacter(0), 1);
        Checks.due("and another", x.appendCharacter(255), 2);
        Checks.due("takeText", x.takeText(0), -2000);
        Checks.due("loadStops", x.loadStops(0), -1000);
        Checks.dueText(x, 0, "x\t7");
    }

    private static void paragraphs() {
        Checks.sentence("Removes a paragraph.");
        TabLines x = made("first");
        x.addParagraph(1);
        Checks.write(x, 1, "second");
        x.addParagraph(2);
        Checks.write(x, 2, "third");
        Checks.due("removeParagraph", x.removeParagraph(1), 2);
        Checks.dueText(x, 0, "first");
        Checks.dueText(x, 1, "third");
        Checks.due("setStyle", x.setStyle(1, 3), 2);
        Checks.due("paragraph 2", x.lines(2), Checks.INVALID);
        Checks.sentence("`tab`: 0 a space, 1 a tab");
        Checks.sentence("`letter`: 0 to 25, of which the word consists");
        Checks.due("addWord", x.addWord(0, 0, 3, 2), 8);
        Checks.due("addWord", x.addWord(0, 1, 24, 4), 13);
        Checks.dueText(x, 0, "first dd\tyyyy");
        Checks.due("addWord", x.addWord(1, 1, 0, 1), 7);
        Checks.dueText(x, 1, "third\ta");
        Checks.dueText(x, 0, "first dd\tyyyy");
        Checks.sentence("`hundredths`: 0 to 9999999");
        Checks.due("addAmount", x.addAmount(1, 123456), 15);
        Checks.dueText(x, 1, "third\ta\t1234.56");
    }

    private static void lines() {
        Checks.sentence("a word comes to c, and c goes behind it");
        TabLines x = made("aa bb");
        Checks.dueLines(x, 0, "  |aa bb");
        Checks.sentence("Otherwise the run of the field is the longest row of its first words");
        x = made("aa\tbbb ccc ddd eee fff");
        Checks.dueLines(x, 0, "  |aabbb ccc ddd eee", "  |  fff");
        Checks.dueField(x, 0, 1, 0, 5, 15, 14, 1, 1);
        x = made("aa\tbbb cc");
        Checks.sentence("Returns the number of lines of a paragraph.");
        Checks.due("lines", x.lines(0), 1);
        Checks.sentence("Returns what a column of a line holds.");
        Checks.dueLines(x, 0, "  |aa---bbb cc");
        Checks.due("a bar", x.cell(0, 0, 2), 124);
        Checks.due("a letter", x.cell(0, 0, 3), 'a');
        Checks.due("a leader", x.cell(0, 0, 5), '-');
        Checks.due("a space", x.cell(0, 0, 11), ' ');
        Checks.due("a letter", x.cell(0, 0, 12), 'c');
        Checks.sentence("Returns a property of a field.");
        Checks.dueField(x, 0, 0, 0, 3, 2, -9, -9, -9);
        Checks.dueField(x, 0, 1, 0, 8, 6, 14, 1, 0);
        Checks.sentence("Counts the columns of all lines of a paragraph that hold something.");
        int[] due = {7, 3, 1, 9};
        for (int what = 0; what < due.length; what++) {
            Checks.due("holds(0, " + what + ")", x.holds(0, what), due[what]);
        }
    }

    private static void whatItIs() {
        Checks.sentence("fields that go on over several hanging lines; texts that pass a stop;"
                + " widths and line counts that would be, and stops that are read from a text.");
        TabLines x = made("aaaa\tbbbbb cccccc ddddddd eeeee ffff gggg hh");
        Checks.dueLines(x, 0, "  |aaaabbbbb cccccc", "  |  ddddddd eeeee", "  |  ffff gggg hh");
        Checks.dueField(x, 0, 1, 0, 7, 12, 14, 1, 1);
        // In one line: 3 columns for the indent, 4 for the field 0, and 39 for the field 1.
        Checks.due("linesWith", x.linesWith(0, 46), 1);
        Checks.due("linesWith", x.linesWith(0, 45), 2);
        Checks.due("leastColumns", x.leastColumns(0, 1), 46);
        Checks.due("leastColumns", x.leastColumns(0, 3), 20);
        Checks.stops(x, 0, "m11.;");
        Checks.dueLines(x, 0, "   aaaabbbbb cccccc", "     ddddddd eeeee", "     ffff gggg hh");
        Checks.write(x, 0, "aaaa\tbbb");
        Checks.dueLines(x, 0, "   aaaa...bbb");
    }

    private static void undo() {
        Checks.sentence("undo() restores the most recently saved state and discards it.");
        TabLines x = made("one");
        Checks.write(x, 0, "two");
        Checks.write(x, 0, "three");
        Checks.due("saved", x.count(5), 6);
        Checks.due("undo", x.undo(), 5);
        Checks.dueText(x, 0, "two");
        Checks.due("undo", x.undo(), 4);
        Checks.dueText(x, 0, "one");
        Checks.write(x, 0, "four");
        Checks.due("saved", x.count(5), 5);
        Checks.due("undo", x.undo(), 4);
        Checks.dueText(x, 0, "one");
    }

    public static void main(String[] args) {
        constants();
        numbers();
        indents();
        styles();
        texts();
        paragraphs();
        lines();
        whatItIs();
        undo();
        Checks.end();
    }
}
