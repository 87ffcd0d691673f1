/** For each promise of the document ordinary inputs, the edges that it names, and wrong inputs. */
public final class PromisesTest {
    private static int wrong = 0;
    private static int promise = 0;
    private static TabLines x = new TabLines();

    private static void fresh() {
        x = new TabLines();
    }

    private static void due(String what, int got, int due) {
        if (got != due) {
            wrong++;
            System.out.println("promise " + promise + ": " + what + " answered " + got + ", due is "
                    + due);
        }
    }

    private static void refused(String what, int got) {
        due(what, got, TabLines.INVALID_ARGUMENT);
    }

    private static void type(String text) {
        for (int i = 0; i < text.length(); i++) {
            x.appendCharacter(text.charAt(i));
        }
    }

    /** Adds a paragraph with a text. */
    private static int paragraph(int style, String text) {
        int number = x.addParagraph(style);
        type(text);
        due("takeText of " + text, x.takeText(number), text.length());
        return number;
    }

    private static void dueText(int paragraph, String text) {
        for (int i = 0; i < text.length(); i++) {
            due("character " + i + " of " + text, x.character(paragraph, i), text.charAt(i));
        }
        due("behind " + text, x.character(paragraph, text.length()), TabLines.NONE);
    }

    /** Compares all lines of a paragraph, cell by cell; spaces at the end may be left out. */
    private static void dueLines(int paragraph, String... lines) {
        due("lines", x.lines(paragraph), lines.length);
        int columns = x.count(0);
        for (int line = 0; line < lines.length; line++) {
            StringBuilder row = new StringBuilder();
            StringBuilder due = new StringBuilder(lines[line]);
            for (int column = 0; column < columns; column++) {
                row.append((char) x.cell(paragraph, line, column));
            }
            while (due.length() < row.length()) {
                due.append(' ');
            }
            if (!row.toString().equals(due.toString())) {
                wrong++;
                System.out.println("promise " + promise + ": line " + line + " is\n<" + row
                        + ">, due is\n<" + due + ">");
            }
        }
    }

    private static void dueField(int paragraph, int field, int... properties) {
        for (int what = 0; what < 6; what++) {
            due("field(" + paragraph + ", " + field + ", " + what + ")",
                    x.field(paragraph, field, what), properties[what]);
        }
    }

    private static void dueStop(int style, int stop, int position, int kind, int leader) {
        due("position of stop " + stop, x.stop(style, stop, 0), position);
        due("kind of stop " + stop, x.stop(style, stop, 1), kind);
        due("leader of stop " + stop, x.stop(style, stop, 2), leader);
    }

    private static void newObject() {
        for (int style = 0; style < 4; style++) {
            due("first indent", x.style(style, 0), 0);
            due("hanging indent", x.style(style, 1), 4);
            due("stops", x.style(style, 2), 0);
            due("default stop", x.style(style, 3), 8);
            due("no stop", x.stop(style, 0, 0), TabLines.NONE);
        }
        int[] counts = {40, 8, 0, 0, 0, 0};
        for (int what = 0; what < 6; what++) {
            due("count(" + what + ")", x.count(what), counts[what]);
        }
        refused("no paragraph", x.lines(0));
        due("nothing saved", x.undo(), TabLines.ILLEGAL_STATE);
    }

    private static void setNumber() {
        due("W", x.setNumber(0, 20), 40);
        due("W", x.setNumber(0, 80), 20);
        due("W again", x.setNumber(0, 80), 80);
        due("D", x.setNumber(1, 2), 8);
        due("D", x.setNumber(1, 20), 2);
        refused("W too small", x.setNumber(0, 19));
        refused("W too great", x.setNumber(0, 81));
        refused("D too small", x.setNumber(1, 1));
        refused("D too great", x.setNumber(1, 21));
        refused("what", x.setNumber(2, 20));
        refused("what", x.setNumber(-1, 20));
        refused("far outside", x.setNumber(0, Integer.MIN_VALUE));
        due("W", x.count(0), 80);
        due("D", x.count(1), 20);
        due("saved", x.count(5), 5);
        due("the same number is saved too", x.undo(), 4);
        due("D", x.count(1), 2);
    }

    private static void setIndent() {
        due("first", x.setIndent(1, 0, 19), 0);
        due("first", x.setIndent(1, 0, 7), 19);
        due("hanging", x.setIndent(1, 1, 0), 4);
        due("hanging", x.setIndent(3, 1, 19), 4);
        due("first", x.style(1, 0), 7);
        due("hanging", x.style(1, 1), 0);
        due("other style", x.style(0, 0), 0);
        due("other style", x.style(0, 1), 4);
        refused("style", x.setIndent(-1, 0, 0));
        refused("style", x.setIndent(4, 0, 0));
        refused("which", x.setIndent(0, -1, 0));
        refused("which", x.setIndent(0, 2, 0));
        refused("value", x.setIndent(0, 0, -1));
        refused("value", x.setIndent(0, 1, 20));
        due("saved", x.count(5), 4);
    }

    private static void setStop() {
        due("number", x.setStop(2, 40, 0, 0), 0);
        due("number", x.setStop(2, 80, 3, 3), 1);
        due("number", x.setStop(2, 1, 4, 0), 0);
        due("number", x.setStop(2, 20, 1, 2), 1);
        dueStop(2, 0, 1, 4, 0);
        dueStop(2, 1, 20, 1, 2);
        dueStop(2, 2, 40, 0, 0);
        dueStop(2, 3, 80, 3, 3);
        due("in place", x.setStop(2, 40, 2, 1), 2);
        dueStop(2, 2, 40, 2, 1);
        due("stops", x.style(2, 2), 4);
        due("other style", x.style(0, 2), 0);
        refused("style", x.setStop(-1, 5, 0, 0));
        refused("style", x.setStop(4, 5, 0, 0));
        refused("position", x.setStop(0, 0, 0, 0));
        refused("position", x.setStop(0, 81, 0, 0));
        refused("kind", x.setStop(0, 5, -1, 0));
        refused("kind", x.setStop(0, 5, 5, 0));
        refused("leader", x.setStop(0, 5, 0, -1));
        refused("leader", x.setStop(0, 5, 3, 4));
        refused("leader of a bar", x.setStop(0, 5, 4, 1));
        due("nothing changed", x.style(0, 2), 0);
        due("saved", x.count(5), 5);
        for (int position = 50; position < 54; position++) {
            due("number", x.setStop(2, position, 0, 0), position - 47);
        }
        due("a ninth", x.setStop(2, 60, 0, 0), TabLines.CAPACITY_EXCEEDED);
        due("a ninth bar", x.setStop(2, 60, 4, 0), TabLines.CAPACITY_EXCEEDED);
        refused("wrong ahead of no room", x.setStop(2, 60, 4, 2));
        due("no ninth", x.setStop(2, 53, 4, 0), 6);
        dueStop(2, 6, 53, 4, 0);
        due("stops", x.style(2, 2), 8);
    }

    private static void removeStop() {
        x.setStop(0, 10, 0, 1);
        x.setStop(0, 20, 1, 2);
        x.setStop(0, 30, 4, 0);
        refused("stop", x.removeStop(0, 3));
        refused("stop", x.removeStop(0, -1));
        refused("stop", x.removeStop(0, TabLines.NONE));
        refused("style", x.removeStop(4, 0));
        refused("style", x.removeStop(-1, 0));
        refused("no stops", x.removeStop(1, 0));
        due("saved", x.count(5), 3);
        due("left", x.removeStop(0, 1), 2);
        dueStop(0, 0, 10, 0, 1);
        dueStop(0, 1, 30, 4, 0);
        due("left", x.removeStop(0, 0), 1);
        dueStop(0, 0, 30, 4, 0);
        due("left", x.removeStop(0, 0), 0);
        due("no more", x.stop(0, 0, 0), TabLines.NONE);
        due("saved", x.count(5), 6);
        x.setStop(0, 1, 0, 0);
        x.setStop(0, 80, 0, 0);
        due("the one at 80 is left", x.removeStop(0, 0), 1);
        dueStop(0, 0, 80, 0, 0);
        due("none is left", x.removeStop(0, 0), 0);
    }

    private static void appendCharacter() {
        due("length", x.appendCharacter(0), 1);
        due("length", x.appendCharacter(255), 2);
        refused("character", x.appendCharacter(-1));
        refused("character", x.appendCharacter(256));
        due("length", x.count(4), 2);
        for (int length = 3; length <= 100; length++) {
            due("length", x.appendCharacter('a'), length);
        }
        due("no room", x.appendCharacter('a'), TabLines.CAPACITY_EXCEEDED);
        refused("wrong ahead of no room", x.appendCharacter(256));
        due("length", x.count(4), 100);
        due("nothing is saved", x.count(5), 0);
    }

    private static void clearText() {
        due("of none", x.clearText(), 0);
        type("l8;");
        due("of three", x.clearText(), 3);
        due("length", x.count(4), 0);
        due("nothing is saved", x.count(5), 0);
        type("r9;");
        due("the new text alone", x.loadStops(0), 1);
        dueStop(0, 0, 9, 1, 0);
    }

    private static void dueLoaded(String text, int answer) {
        x.clearText();
        type(text);
        int saved = x.count(5);
        due("loadStops of <" + text + ">", x.loadStops(1), answer);
        boolean good = answer >= 0;
        due("length behind <" + text + ">", x.count(4), good ? 0 : text.length());
        due("saved behind <" + text + ">", x.count(5), good ? Math.min(6, saved + 1) : saved);
    }

    private static void loadStops() {
        x.setStop(1, 33, 0, 0);
        dueLoaded("r20.;l8;m30-;p40_;b12;", 5);
        dueStop(1, 0, 8, 0, 0);
        dueStop(1, 1, 12, 4, 0);
        dueStop(1, 2, 20, 1, 1);
        dueStop(1, 3, 30, 2, 2);
        dueStop(1, 4, 40, 3, 3);
        dueLoaded("  l  5  .  ;  b  80  ;  ", 2);
        dueStop(1, 0, 5, 0, 1);
        dueStop(1, 1, 80, 4, 0);
        dueLoaded("x", -1000);
        due("stops are kept", x.style(1, 2), 2);
        dueLoaded("l1;l2;l3;l4;l5;l6;l7;l9;", 8);
        dueLoaded("l1;l2;l3;l4;l5;l6;l7;l9; l10;", -1025);
        dueLoaded("l1;l2;l3;l4;l5;l6;l7;l9;  ", 8);
        dueLoaded("l1;l2;l3;l4;l5;l6;l7;l9;;", -1024);
        dueLoaded("", 0);
        due("no stops", x.style(1, 2), 0);
        dueLoaded("   ", 0);
        dueLoaded("l80;", 1);
        dueLoaded("l81;", -1001);
        dueLoaded(" l 99;", -1003);
        dueLoaded("l0;", -1001);
        dueLoaded("l08;", -1001);
        dueLoaded("l8;r8;", -1004);
        dueLoaded("l8;r80;", 2);
        dueLoaded("l8;r8", -1004);
        dueLoaded("l12;r 12;", -1006);
        dueLoaded("l1 2;", -1003);
        dueLoaded("l123;", -1003);
        dueLoaded("l812;", -1001);
        dueLoaded("b5.;", -1002);
        dueLoaded("b5 -;", -1003);
        dueLoaded("b5_;", -1002);
        dueLoaded("l5..;", -1003);
        dueLoaded("l5.-;", -1003);
        dueLoaded("l5,;", -1002);
        dueLoaded(";", -1000);
        dueLoaded("l5;;", -1003);
        dueLoaded("5;", -1000);
        dueLoaded("l;", -1001);
        dueLoaded("L5;", -1000);
        dueLoaded("lr5;", -1001);
        dueLoaded("l5;\tr6;", -1003);
        dueLoaded("l", -1001);
        dueLoaded("l  ", -1003);
        dueLoaded("l5", -1002);
        dueLoaded("l5 ", -1003);
        dueLoaded("l5.", -1003);
        dueLoaded("l5;r", -1004);
        refused("style", x.loadStops(-1));
        refused("style", x.loadStops(4));
        due("the text is kept", x.count(4), 4);
        fresh();
        type("l5;");
        due("saved", x.loadStops(3), 1);
        due("undone", x.undo(), 0);
        due("no stops again", x.style(3, 2), 0);
        due("the text is not part of the state", x.count(4), 0);
    }

    private static void addParagraph() {
        refused("style", x.addParagraph(-1));
        refused("style", x.addParagraph(4));
        for (int number = 0; number < 8; number++) {
            due("number", x.addParagraph(number % 4), number);
            due("length", x.character(number, 0), TabLines.NONE);
            due("line", x.lines(number), 1);
        }
        due("style", x.setStyle(6, 0), 2);
        due("no room", x.addParagraph(0), TabLines.CAPACITY_EXCEEDED);
        refused("wrong ahead of no room", x.addParagraph(4));
        due("paragraphs", x.count(2), 8);
        x.addWord(7, 0, 0, 5);
        x.removeParagraph(7);
        due("number", x.addParagraph(1), 7);
        due("without text", x.character(7, 0), TabLines.NONE);
    }

    private static void removeParagraph() {
        paragraph(0, "a");
        paragraph(1, "bb");
        paragraph(2, "ccc");
        refused("paragraph", x.removeParagraph(-1));
        refused("paragraph", x.removeParagraph(3));
        due("saved", x.count(5), 6);
        due("left", x.removeParagraph(1), 2);
        dueText(0, "a");
        dueText(1, "ccc");
        due("style goes along", x.setStyle(1, 2), 2);
        refused("no more", x.lines(2));
        due("left", x.removeParagraph(1), 1);
        dueText(0, "a");
        due("left", x.removeParagraph(0), 0);
        refused("none", x.removeParagraph(0));
        x.undo();
        x.undo();
        dueText(1, "ccc");
    }

    private static void setStyle() {
        x.setIndent(3, 0, 5);
        paragraph(0, "a");
        paragraph(0, "b");
        due("previous", x.setStyle(1, 3), 0);
        dueLines(0, "a");
        dueLines(1, "     b");
        due("previous", x.setStyle(1, 3), 3);
        refused("paragraph", x.setStyle(2, 0));
        refused("paragraph", x.setStyle(-1, 0));
        refused("style", x.setStyle(0, 4));
        refused("style", x.setStyle(0, -1));
        due("previous", x.setStyle(0, 1), 0);
    }

    private static void takeText() {
        String all = "az09., \t";
        x.addParagraph(0);
        type(all);
        due("length", x.takeText(0), 8);
        due("the text is empty", x.count(4), 0);
        dueText(0, all);
        due("saved", x.count(5), 2);
        type("xyz");
        refused("paragraph", x.takeText(1));
        refused("paragraph", x.takeText(-1));
        type("A");
        due("offset", x.takeText(0), -2003);
        due("the text is kept", x.count(4), 4);
        dueText(0, all);
        int[] wrongOnes = {'`', '{', '/', ':', '-', '_', ';', 0, 8, 10, 13, 31, 33, 255, 'Z'};
        for (int character : wrongOnes) {
            x.clearText();
            x.appendCharacter(character);
            due("character " + character, x.takeText(0), -2000);
        }
        x.clearText();
        type("a".repeat(81));
        due("no room", x.takeText(0), TabLines.CAPACITY_EXCEEDED);
        due("the text is kept", x.count(4), 81);
        type("?");
        due("wrong ahead of no room", x.takeText(0), -2081);
        dueText(0, all);
        x.clearText();
        due("saved", x.count(5), 2);
        type("b".repeat(80));
        due("just room", x.takeText(0), 80);
        dueText(0, "b".repeat(80));
        due("an empty text", x.takeText(0), 0);
        dueText(0, "");
        due("saved", x.count(5), 4);
    }

    private static void addWord() {
        x.addParagraph(0);
        due("length", x.addWord(0, 0, 0, 3), 4);
        due("length", x.addWord(0, 1, 25, 1), 6);
        due("length", x.addWord(0, 0, 1, 30), 37);
        dueText(0, " aaa\tz " + "b".repeat(30));
        refused("paragraph", x.addWord(1, 0, 0, 1));
        refused("paragraph", x.addWord(-1, 0, 0, 1));
        refused("tab", x.addWord(0, 2, 0, 1));
        refused("tab", x.addWord(0, -1, 0, 1));
        refused("letter", x.addWord(0, 0, 26, 1));
        refused("letter", x.addWord(0, 0, -1, 1));
        refused("length", x.addWord(0, 0, 0, 0));
        refused("length", x.addWord(0, 0, 0, 31));
        due("length", x.addWord(0, 0, 2, 30), 68);
        due("no room", x.addWord(0, 1, 2, 12), TabLines.CAPACITY_EXCEEDED);
        refused("wrong ahead of no room", x.addWord(0, 1, 26, 12));
        due("saved", x.count(5), 5);
        due("just room", x.addWord(0, 1, 3, 11), 80);
        due("full", x.addWord(0, 0, 3, 1), TabLines.CAPACITY_EXCEEDED);
        dueText(0, " aaa\tz " + "b".repeat(30) + " " + "c".repeat(30) + "\t" + "d".repeat(11));
    }

    private static void dueAmount(int hundredths, String text) {
        fresh();
        x.addParagraph(0);
        due("amount", x.addAmount(0, hundredths), text.length() + 1);
        dueText(0, "\t" + text);
        due("saved", x.count(5), 2);
    }

    private static void addAmount() {
        dueAmount(0, "0.00");
        dueAmount(5, "0.05");
        dueAmount(70, "0.70");
        dueAmount(100, "1.00");
        dueAmount(999, "9.99");
        dueAmount(1000, "10.00");
        dueAmount(10203, "102.03");
        dueAmount(123456, "1234.56");
        dueAmount(1000000, "10000.00");
        dueAmount(9999999, "99999.99");
        refused("paragraph", x.addAmount(1, 0));
        refused("paragraph", x.addAmount(-1, 0));
        refused("amount", x.addAmount(0, -1));
        refused("amount", x.addAmount(0, 10000000));
        x.clearText();
        type("a".repeat(76));
        x.takeText(0);
        due("no room", x.addAmount(0, 999), TabLines.CAPACITY_EXCEEDED);
        refused("wrong ahead of no room", x.addAmount(0, -1));
        type("a".repeat(75));
        x.takeText(0);
        due("no room", x.addAmount(0, 1000), TabLines.CAPACITY_EXCEEDED);
        due("just room", x.addAmount(0, 999), 80);
    }

    private static void count() {
        x.setNumber(0, 20);
        x.setNumber(1, 5);
        paragraph(0, "aaaa bbbb cccc dddd eeee");
        paragraph(0, "a");
        type("12345");
        int[] counts = {20, 5, 2, 3, 5, 6};
        for (int what = 0; what < 6; what++) {
            due("count(" + what + ")", x.count(what), counts[what]);
        }
        refused("what", x.count(-1));
        refused("what", x.count(6));
        due("looking saves nothing", x.count(5), 6);
    }

    private static void style() {
        x.setIndent(2, 0, 3);
        x.setIndent(2, 1, 9);
        due("first", x.style(2, 0), 3);
        due("hanging", x.style(2, 1), 9);
        due("default stop", x.style(2, 3), 8);
        x.setStop(2, 40, 4, 0);
        due("not behind a bar", x.style(2, 3), 8);
        due("bars are stops", x.style(2, 2), 1);
        x.setStop(2, 15, 3, 0);
        due("behind the last stop", x.style(2, 3), 16);
        x.setStop(2, 16, 1, 0);
        due("greater than the last stop", x.style(2, 3), 24);
        x.setStop(2, 80, 2, 0);
        due("greater than all columns", x.style(2, 3), 88);
        x.setNumber(1, 20);
        due("greater than all columns", x.style(2, 3), 100);
        x.setNumber(1, 3);
        due("greater than all columns", x.style(2, 3), 81);
        due("other style", x.style(1, 3), 3);
        due("stops", x.style(2, 2), 4);
        refused("style", x.style(-1, 0));
        refused("style", x.style(4, 0));
        refused("what", x.style(0, -1));
        refused("what", x.style(0, 4));
    }

    private static void stop() {
        x.setStop(1, 7, 3, 2);
        x.setStop(1, 5, 4, 0);
        dueStop(1, 0, 5, 4, 0);
        dueStop(1, 1, 7, 3, 2);
        dueStop(1, 2, TabLines.NONE, TabLines.NONE, TabLines.NONE);
        due("many", x.stop(1, Integer.MAX_VALUE, 1), TabLines.NONE);
        due("other style", x.stop(0, 0, 0), TabLines.NONE);
        refused("style", x.stop(-1, 0, 0));
        refused("style", x.stop(4, 0, 0));
        refused("stop", x.stop(1, -1, 0));
        refused("what", x.stop(1, 0, -1));
        refused("what", x.stop(1, 0, 3));
        refused("what, ahead of NONE", x.stop(1, 9, 3));
    }

    private static void character() {
        paragraph(0, "a\t, 7");
        dueText(0, "a\t, 7");
        due("many", x.character(0, Integer.MAX_VALUE), TabLines.NONE);
        due("eighty", x.character(0, 80), TabLines.NONE);
        refused("index", x.character(0, -1));
        refused("paragraph", x.character(1, 0));
        refused("paragraph", x.character(-1, 0));
        type("a".repeat(80));
        x.takeText(0);
        due("last", x.character(0, 79), 'a');
        due("behind the last", x.character(0, 80), TabLines.NONE);
    }

    private static void linesOfOneField() {
        x.setNumber(0, 20);
        int p = paragraph(0, "");
        due("an empty one", x.lines(p), 1);
        dueLines(p, "");
        type("   ");
        x.takeText(p);
        dueLines(p, "");
        type("  aaaa   bbbb cccc ddddd  ");
        x.takeText(p);
        dueLines(p, "aaaa bbbb cccc ddddd");
        type("aaaa bbbb cccc dddddd e");
        x.takeText(p);
        dueLines(p, "aaaa bbbb cccc", "    dddddd e");
        x.setIndent(0, 0, 2);
        x.setIndent(0, 1, 0);
        dueLines(p, "  aaaa bbbb cccc", "dddddd e");
        type("a".repeat(18) + " b");
        x.takeText(p);
        dueLines(p, "  " + "a".repeat(18), "b");
        type("ab " + "c".repeat(20) + " " + "d".repeat(41) + " ee");
        x.takeText(p);
        dueLines(p, "  ab", "c".repeat(20), "d".repeat(20), "d".repeat(20), "d ee");
        fresh();
        x.setNumber(0, 20);
        x.setIndent(0, 0, 2);
        x.setIndent(0, 1, 0);
        p = paragraph(0, "1234567890".repeat(4));
        dueLines(p, "  123456789012345678", "90123456789012345678", "90");
        x.setIndent(0, 0, 19);
        x.setIndent(0, 1, 19);
        type("a".repeat(80));
        x.takeText(p);
        due("as many lines as characters", x.lines(p), 80);
        due("the last one", x.cell(p, 79, 19), 'a');
        due("none is lost", x.holds(p, 0), 80);
        refused("paragraph", x.lines(1));
        refused("paragraph", x.lines(-1));
    }

    private static void linesOfManyFields() {
        x.setNumber(0, 20);
        x.setNumber(1, 19);
        x.setIndent(0, 0, 19);
        x.setIndent(0, 1, 19);
        int p = paragraph(0, "\t".repeat(80));
        due("each tab makes a line", x.lines(p), 81);
        due("field 80", x.field(p, 80, 0), 80);
        due("no field 81", x.field(p, 81, 0), TabLines.NONE);
        due("leastColumns", x.leastColumns(p, 81), 20);
        // With W 38 each second tab finds the stop at 38.
        due("linesWith", x.linesWith(p, 38), 41);
        due("leastColumns", x.leastColumns(p, 80), 38);
        due("spaces", x.holds(p, 3), 81 * 20);
    }

    private static void cell() {
        x.setNumber(0, 20);
        int p = paragraph(0, "a1.,\tb c");
        x.setStop(0, 6, 4, 0);
        x.setStop(0, 10, 0, 3);
        x.setStop(0, 11, 4, 0);
        x.setStop(0, 12, 4, 0);
        x.setStop(0, 20, 4, 0);
        dueLines(p, "a1.,______b|c");
        due("letter", x.cell(p, 0, 0), 'a');
        due("leader", x.cell(p, 0, 6), '_');
        due("bar between words", x.cell(p, 0, 11), 124);
        due("no bar over a word", x.cell(p, 0, 12), 'c');
        due("space", x.cell(p, 0, 19), 32);
        due("no such line", x.cell(p, 1, 0), TabLines.NONE);
        due("no such line", x.cell(p, Integer.MAX_VALUE, 0), TabLines.NONE);
        refused("line", x.cell(p, -1, 0));
        refused("column", x.cell(p, 0, -1));
        refused("column", x.cell(p, 0, 20));
        refused("column, ahead of NONE", x.cell(p, 7, 20));
        refused("paragraph", x.cell(p + 1, 0, 0));
        refused("paragraph", x.cell(-1, 0, 0));
        x.setNumber(0, 21);
        due("bar at W - 1", x.cell(p, 0, 20), 124);
        x.setStop(0, 10, 0, 1);
        due("leader", x.cell(p, 0, 9), '.');
        x.setStop(0, 10, 0, 2);
        due("leader", x.cell(p, 0, 9), '-');
        x.setStop(0, 10, 0, 0);
        dueLines(p, "a1.,  |   b|c       |");
    }

    private static void barsOnAllLines() {
        x.setNumber(0, 20);
        x.setStop(0, 2, 4, 0);
        x.setStop(0, 19, 4, 0);
        int p = paragraph(0, "\taaaaaaaaaaaa bbb");
        dueLines(p, "  |     aaaaaaaaaaaa", "  | bbb            |");
        due("bars", x.holds(p, 2), 3);
    }

    private static void fieldLeft() {
        x.setNumber(0, 20);
        int p = paragraph(0, "aa\tbbb\t\tcc");
        dueLines(p, "aa      bbb", "    cc");
        dueField(p, 0, 0, 0, 2, -9, -9, -9);
        dueField(p, 1, 0, 8, 3, 8, 0, 0);
        dueField(p, 2, 0, 16, 0, 16, 0, 0);
        dueField(p, 3, 1, 4, 2, -9, -9, -9);
        due("no field", x.field(p, 4, 0), TabLines.NONE);
        due("no field", x.field(p, Integer.MAX_VALUE, 5), TabLines.NONE);
        refused("field", x.field(p, -1, 0));
        refused("what", x.field(p, 0, -1));
        refused("what", x.field(p, 0, 6));
        refused("what, ahead of NONE", x.field(p, 9, 6));
        refused("paragraph", x.field(p + 1, 0, 0));
        refused("paragraph", x.field(-1, 0, 0));
        type("aaaaaaaa\tbbbb\tc");
        x.takeText(p);
        dueLines(p, "aaaaaaaa        bbbb", "    c");
        dueField(p, 1, 0, 16, 4, 16, 0, 0);
        type("a\tbbbbb ccccc dddddd ee");
        x.takeText(p);
        dueLines(p, "a       bbbbb ccccc", "    dddddd ee");
        dueField(p, 1, 0, 8, 11, 8, 0, 0);
        type("a\tbbbbbbbbbbbbb cc");
        x.takeText(p);
        dueLines(p, "a", "    bbbbbbbbbbbbb cc");
        dueField(p, 1, 1, 4, 16, -9, -9, -9);
        type("a\tbbbbbbbbbbbbbbbbbbbbb cc");
        x.takeText(p);
        dueLines(p, "a", "    bbbbbbbbbbbbbbbb", "    bbbbb cc");
        dueField(p, 1, 1, 4, 16, -9, -9, -9);
    }

    private static void fieldWithoutStop() {
        x.setNumber(0, 20);
        x.setNumber(1, 20);
        int p = paragraph(0, "a\t\t\tb");
        dueLines(p, "a", "                    ", "    b");
        dueField(p, 1, 0, 20, 0, 20, 0, 0);
        dueField(p, 2, 1, 4, 0, -9, -9, -9);
        dueField(p, 3, 2, 4, 1, -9, -9, -9);
        type("a\tb");
        x.takeText(p);
        dueLines(p, "a", "    b");
        dueField(p, 1, 1, 4, 1, -9, -9, -9);
        x.setIndent(0, 0, 3);
        x.setIndent(0, 1, 0);
        type("\t\t");
        x.takeText(p);
        dueField(p, 0, 0, 3, 0, -9, -9, -9);
        dueField(p, 1, 0, 20, 0, 20, 0, 0);
        dueField(p, 2, 1, 0, 0, -9, -9, -9);
        x.setNumber(0, 41);
        x.setStop(0, 21, 1, 0);
        dueField(p, 1, 0, 21, 0, 21, 1, 0);
        dueField(p, 2, 0, 40, 0, 40, 0, 0);
        x.setStop(0, 41, 2, 0);
        dueField(p, 2, 0, 41, 0, 41, 2, 0);
    }

    private static void fieldRight() {
        x.setNumber(0, 20);
        x.setStop(0, 12, 1, 1);
        int p = paragraph(0, "aa\tbbb cc");
        dueLines(p, "aa....bbb cc");
        dueField(p, 1, 0, 6, 6, 12, 1, 0);
        type("aa\tbbb ccc ddd");
        x.takeText(p);
        dueLines(p, "aabbb ccc ddd");
        dueField(p, 1, 0, 2, 11, 12, 1, 1);
        type("aa\tbbb ccc dd");
        x.takeText(p);
        dueLines(p, "aabbb ccc dd");
        dueField(p, 1, 0, 2, 10, 12, 1, 0);
        type("aa\tbbb ccc ddd eeee fff ggg");
        x.takeText(p);
        dueLines(p, "aabbb ccc ddd eeee", "    fff ggg");
        dueField(p, 1, 0, 2, 16, 12, 1, 1);
        type("aa\tbbbbbbbbbbbbbbbbbb c");
        x.takeText(p);
        dueLines(p, "aabbbbbbbbbbbbbbbbbb", "    c");
        type("aa\tbbbbbbbbbbbbbbbbbbb");
        x.takeText(p);
        dueLines(p, "aa", "    bbbbbbbbbbbbbbbb", "    bbb");
        dueField(p, 1, 1, 4, 16, -9, -9, -9);
        type("aa\t\tb");
        x.takeText(p);
        dueLines(p, "aa..........    b");
        dueField(p, 1, 0, 12, 0, 12, 1, 0);
    }

    private static void fieldMiddle() {
        x.setNumber(0, 20);
        x.setStop(0, 10, 2, 2);
        int p = paragraph(0, "a\tbbb");
        dueLines(p, "a--------bbb");
        dueField(p, 1, 0, 9, 3, 10, 2, 0);
        type("a\tbbbb");
        x.takeText(p);
        dueLines(p, "a-------bbbb");
        type("aaaaaaa\tbbb bbbb");
        x.takeText(p);
        dueLines(p, "aaaaaaabbb bbbb");
        dueField(p, 1, 0, 7, 8, 10, 2, 1);
        x.setStop(0, 18, 2, 3);
        type("aaaaaaaaaaaa\tbb bbb");
        x.takeText(p);
        dueLines(p, "aaaaaaaaaaaa__bb bbb");
        dueField(p, 1, 0, 14, 6, 18, 2, 2);
        type("aaaaaaaaaaaa\tbb bb");
        x.takeText(p);
        dueField(p, 1, 0, 15, 5, 18, 2, 2);
        type("aaaaaaaaaaaa\tbbbb");
        x.takeText(p);
        dueLines(p, "aaaaaaaaaaaa____bbbb");
        dueField(p, 1, 0, 16, 4, 18, 2, 0);
        type("aaaaaaaaaaaa\tbb bbbbb");
        x.takeText(p);
        dueLines(p, "aaaaaaaaaaaabb bbbbb");
        dueField(p, 1, 0, 12, 8, 18, 2, 2);
    }

    private static void fieldPoint() {
        x.setNumber(0, 20);
        x.setStop(0, 10, 3, 0);
        int p = paragraph(0, "\t12.50\t7");
        dueLines(p, "        12.50   7");
        dueField(p, 1, 0, 8, 5, 10, 3, 0);
        type("\t1234");
        x.takeText(p);
        dueLines(p, "      1234");
        type("\ta b.c.d");
        x.takeText(p);
        dueLines(p, "       a b.c.d");
        type("\t.5 .");
        x.takeText(p);
        dueLines(p, "          .5 .");
        type("\t12345678901.5");
        x.takeText(p);
        dueLines(p, "12345678901.5");
        dueField(p, 1, 0, 0, 13, 10, 3, 1);
        type("\t1.23456789012");
        x.takeText(p);
        dueLines(p, "       1.23456789012");
        dueField(p, 1, 0, 7, 13, 10, 3, 2);
        type("\taaaaaaaaaaaa bbbbbbb .c");
        x.takeText(p);
        dueLines(p, "aaaaaaaaaaaa bbbbbbb", "    .c");
        x.setStop(0, 15, 3, 0);
        type("aaaaaaaaaa\tbbbb c.ccccccc");
        x.takeText(p);
        // The point of a word behind the run does not count.
        dueLines(p, "aaaaaaaaaa bbbb", "    c.ccccccc");
        dueField(p, 1, 0, 11, 4, 15, 3, 0);
    }

    private static void fieldBehindPartedWord() {
        x.setNumber(0, 20);
        int p = paragraph(0, "a".repeat(25) + "\tc");
        dueLines(p, "a".repeat(20), "    aaaaa" + " ".repeat(7) + "c");
        dueField(p, 0, 0, 0, 20, -9, -9, -9);
        dueField(p, 1, 1, 16, 1, 16, 0, 0);
        type("a".repeat(20) + "\tc");
        x.takeText(p);
        dueLines(p, "a".repeat(20), "    c");
        type("aaa bbb " + "c".repeat(17));
        x.takeText(p);
        dueLines(p, "aaa bbb", "    " + "c".repeat(16), "    c");
        dueField(p, 0, 0, 0, 7, -9, -9, -9);
    }

    private static void defaultStops() {
        x.setNumber(0, 40);
        x.setStop(0, 12, 0, 0);
        int p = paragraph(0, "a\tb\tc\td\te\tf");
        // No default stops up to the last own stop, and all multiples of D behind it.
        dueLines(p, "a           b   c       d       e", "    f");
        x.setStop(0, 14, 4, 0);
        x.setStop(0, 16, 4, 0);
        dueLines(p, "a           b | c       d       e", "    f         | |");
        dueField(p, 2, 0, 16, 1, 16, 0, 0);
        x.setStop(0, 16, 1, 0);
        dueField(p, 2, 0, 15, 1, 16, 1, 0);
        x.setNumber(1, 7);
        dueField(p, 3, 0, 21, 1, 21, 0, 0);
    }

    private static void stopsAtTheEdges() {
        x.setNumber(0, 80);
        x.setStop(0, 1, 0, 3);
        x.setStop(0, 79, 3, 3);
        x.setStop(0, 80, 1, 0);
        int p = paragraph(0, "\ta\t7\tb");
        dueField(p, 1, 0, 1, 1, 1, 0, 0);
        dueField(p, 2, 0, 78, 1, 79, 3, 0);
        dueField(p, 3, 0, 79, 1, 80, 1, 0);
        due("leader of the first", x.cell(p, 0, 0), '_');
        due("leaders", x.holds(p, 1), 1 + 76);
        type("a\tb");
        x.takeText(p);
        x.setStop(0, 2, 0, 1);
        dueField(p, 1, 0, 2, 1, 2, 0, 0);
    }

    private static void holds() {
        x.setNumber(0, 20);
        x.setStop(0, 8, 0, 1);
        x.setStop(0, 3, 4, 0);
        x.setStop(0, 9, 4, 0);
        x.setStop(0, 19, 4, 0);
        x.setStop(0, 20, 4, 0);
        int p = paragraph(0, "ab.\tc d eeeeeeeee");
        dueLines(p, "ab......c|d        |", "   |eeeeeeeee      |");
        int[] all = {14, 5, 4, 17};
        for (int what = 0; what < 4; what++) {
            due("holds " + what, x.holds(p, what), all[what]);
        }
        refused("what", x.holds(p, -1));
        refused("what", x.holds(p, 4));
        refused("paragraph", x.holds(p + 1, 0));
        refused("paragraph", x.holds(-1, 0));
        x.setNumber(0, 80);
        due("spaces of wider lines", x.holds(p, 3), 80 - 14 - 5 - 1);
        x.addParagraph(1);
        due("an empty one", x.holds(1, 3), 80);
        x.setStop(1, 1, 4, 0);
        x.setStop(1, 79, 4, 0);
        x.setStop(1, 80, 4, 0);
        due("bars of an empty one", x.holds(1, 2), 2);
        due("spaces beside them", x.holds(1, 3), 78);
    }

    private static void linesWith() {
        int p = paragraph(0, "aaaa bbbb cccc dddd eeee ffff gggg hhhh iiii jjjj kkkk llll mmmm");
        due("80", x.linesWith(p, 80), 1);
        due("64", x.linesWith(p, 64), 1);
        due("63", x.linesWith(p, 63), 2);
        due("20", x.linesWith(p, 20), 4);
        due("as it is", x.linesWith(p, 40), x.lines(p));
        due("W is kept", x.count(0), 40);
        refused("columns", x.linesWith(p, 19));
        refused("columns", x.linesWith(p, 81));
        refused("paragraph", x.linesWith(p + 1, 40));
        refused("paragraph", x.linesWith(-1, 40));
        due("nothing is saved", x.count(5), 2);
    }

    private static void leastColumns() {
        int p = paragraph(0, "aaaa bbbb cccc dddd eeee ffff gggg hhhh iiii jjjj kkkk llll mmmm");
        due("one line", x.leastColumns(p, 1), 64);
        due("two lines", x.leastColumns(p, 2), 34);
        due("many lines", x.leastColumns(p, 99), 20);
        due("W is kept", x.count(0), 40);
        refused("lines", x.leastColumns(p, 0));
        refused("lines", x.leastColumns(p, 100));
        refused("paragraph", x.leastColumns(p + 1, 1));
        refused("paragraph", x.leastColumns(-1, 1));
        x.setIndent(0, 0, 19);
        type("a".repeat(61));
        x.takeText(p);
        due("just 80", x.leastColumns(p, 1), 80);
        type("a".repeat(62));
        x.takeText(p);
        due("none", x.leastColumns(p, 1), TabLines.NONE);
        due("two lines", x.leastColumns(p, 2), 43);
        due("nothing is saved", x.count(5), 5);
    }

    private static void leastColumnsByTrying() {
        for (int lines = 1; lines <= 9; lines++) {
            fresh();
            x.setNumber(1, 20);
            x.setStop(0, 24, 2, 0);
            x.setStop(0, 41, 0, 0);
            x.setIndent(0, 1, 11);
            int p = paragraph(0,
                    "aaaa\tb bbb bbbbb\t" + "c".repeat(20) + "\t\tddd.dd ddddddddd e");
            int least = TabLines.NONE;
            for (int w = 80; w >= 20; w--) {
                if (x.linesWith(p, w) <= lines) {
                    least = w;
                }
            }
            due("the least of all for " + lines, x.leastColumns(p, lines), least);
        }
    }

    private static void undo() {
        due("nothing saved", x.undo(), TabLines.ILLEGAL_STATE);
        x.setNumber(0, 30);
        x.setIndent(0, 1, 9);
        x.setStop(0, 5, 1, 1);
        x.addParagraph(0);
        x.addWord(0, 0, 0, 3);
        x.addAmount(0, 1);
        due("saved", x.count(5), 6);
        x.setStyle(0, 2);
        due("only six", x.count(5), 6);
        type("xy");
        due("left", x.undo(), 5);
        due("the text stays", x.count(4), 2);
        due("style", x.setStyle(0, 3), 0);
        due("left", x.undo(), 5);
        due("left", x.undo(), 4);
        dueText(0, " aaa");
        due("left", x.undo(), 3);
        dueText(0, "");
        due("left", x.undo(), 2);
        refused("no paragraph", x.lines(0));
        dueStop(0, 0, 5, 1, 1);
        due("left", x.undo(), 1);
        due("no stop", x.style(0, 2), 0);
        due("hanging", x.style(0, 1), 9);
        due("left", x.undo(), 0);
        due("hanging", x.style(0, 1), 4);
        due("the oldest one is gone", x.count(0), 30);
        due("nothing saved", x.undo(), TabLines.ILLEGAL_STATE);
        due("and nothing changed", x.count(0), 30);
    }

    /** Each of the calls that save, alone. */
    private static void undoOfEach() {
        x.setNumber(1, 5);
        x.undo();
        due("D", x.count(1), 8);
        x.setStop(3, 9, 2, 1);
        x.removeStop(3, 0);
        x.undo();
        dueStop(3, 0, 9, 2, 1);
        type("b4;");
        x.loadStops(3);
        x.undo();
        dueStop(3, 0, 9, 2, 1);
        due("stops", x.style(3, 2), 1);
        paragraph(1, "one");
        paragraph(2, "two");
        x.removeParagraph(0);
        x.undo();
        dueText(0, "one");
        dueText(1, "two");
        type("three");
        x.takeText(0);
        x.undo();
        dueText(0, "one");
        x.setStyle(0, 0);
        x.undo();
        due("style", x.setStyle(0, 0), 1);
        x.undo();
        x.addWord(1, 0, 0, 1);
        x.undo();
        dueText(1, "two");
    }

    private static void run(int number) {
        promise = number;
        fresh();
        switch (number) {
            case 1: newObject(); break;
            case 2: setNumber(); break;
            case 3: setIndent(); break;
            case 4: setStop(); break;
            case 5: removeStop(); break;
            case 6: appendCharacter(); break;
            case 7: clearText(); break;
            case 8: loadStops(); break;
            case 9: addParagraph(); break;
            case 10: removeParagraph(); break;
            case 11: setStyle(); break;
            case 12: takeText(); break;
            case 13: addWord(); break;
            case 14: addAmount(); break;
            case 15: count(); break;
            case 16: style(); break;
            case 17: stop(); break;
            case 18: character(); break;
            case 19: linesOfOneField(); fresh(); linesOfManyFields(); break;
            case 20: cell(); fresh(); barsOnAllLines(); break;
            case 21: fields(); break;
            case 22: holds(); break;
            case 23: linesWith(); break;
            case 24: leastColumns(); fresh(); leastColumnsByTrying(); break;
            default: undo(); fresh(); undoOfEach();
        }
    }

    private static void fields() {
        fieldLeft();
        fresh();
        fieldWithoutStop();
        fresh();
        fieldRight();
        fresh();
        fieldMiddle();
        fresh();
        fieldPoint();
        fresh();
        fieldBehindPartedWord();
        fresh();
        defaultStops();
        fresh();
        stopsAtTheEdges();
    }

    public static void main(String[] args) {
        for (int number = 1; number <= 25; number++) {
            run(number);
        }
        System.out.println(wrong == 0 ? "all promises are kept" : wrong + " answers are wrong");
        if (wrong != 0) {
            System.exit(1);
        }
    }
}
