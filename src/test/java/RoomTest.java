import java.util.List;
import java.util.function.Supplier;

/** What is empty at first, what is full, what follows when something is removed, and undo(). */
public final class RoomTest {

    private static TabLines withParagraph() {
        TabLines x = new TabLines();
        x.addParagraph(0);
        return x;
    }

    private static TabLines withText(String text) {
        TabLines x = withParagraph();
        Checks.write(x, 0, text);
        return x;
    }

    private static void newObject() {
        Checks.sentence("Creates four styles without own stops, no paragraphs, and an empty text.");
        TabLines x = new TabLines();
        for (int style = 0; style < 4; style++) {
            Checks.due("own stops", x.style(style, 2), 0);
            Checks.due("stop 0", x.stop(style, 0, 0), Checks.NONE);
            Checks.due("first default stop", x.style(style, 3), 8);
        }
        Checks.due("paragraphs", x.count(2), 0);
        Checks.due("lines of all paragraphs", x.count(3), 0);
        Checks.due("length of the text", x.count(4), 0);
        Checks.due("saved states", x.count(5), 0);
        Checks.sentence("A line has W columns, 20 to 80 (at first 40), numbered from 0.");
        Checks.due("W", x.count(0), 40);
        Checks.sentence("each 0 to 19 (at first 0 and 4)");
        for (int style = 0; style < 4; style++) {
            Checks.due("first indent", x.style(style, 0), 0);
            Checks.due("hanging indent", x.style(style, 1), 4);
        }
        Checks.sentence("D, 2 to 20 (at first 8)");
        Checks.due("D", x.count(1), 8);
        Checks.sentence("`ILLEGAL_STATE = -2`: The call is not possible in the present state.");
        Checks.refused("undo", TabLines::new, TabLines::undo, Checks.ILLEGAL);
    }

    private static void fourStyles() {
        Checks.sentence("There are 4 styles, numbered from 0.");
        for (int style = 0; style < 4; style++) {
            TabLines x = new TabLines();
            x.setIndent(style, 0, 19);
            x.setIndent(style, 1, 0);
            x.setStop(style, 80, 3, 3);
            for (int other = 0; other < 4; other++) {
                boolean changed = other == style;
                Checks.due("first indent", x.style(other, 0), changed ? 19 : 0);
                Checks.due("hanging indent", x.style(other, 1), changed ? 0 : 4);
                Checks.due("own stops", x.style(other, 2), changed ? 1 : 0);
                Checks.due("first default stop", x.style(other, 3), changed ? 88 : 8);
                Checks.due("stop 0", x.stop(other, 0, 0), changed ? 80 : Checks.NONE);
            }
        }
        Checks.due("style 4", new TabLines().style(4, 0), Checks.INVALID);
        Checks.due("style -1", new TabLines().style(-1, 0), Checks.INVALID);
    }

    private static void eachStop() {
        Checks.sentence("A stop has a position, 1 to 80 (no two of a style alike), a kind: 0 left, 1"
                + " right, 2 middle, 3 point, 4 bar, and a leader: 0 none, 1 \".\", 2 \"-\", 3 \"_\""
                + " (a bar has none).");
        int[] positions = {1, 2, 79, 80};
        for (int position : positions) {
            TabLines x = new TabLines();
            for (int kind = 0; kind < 5; kind++) {
                for (int leader = 0; leader < (kind == 4 ? 1 : 4); leader++) {
                    Checks.due("setStop", x.setStop(3, position, kind, leader), 0);
                    Checks.dueStop(x, 3, 0, position, kind, leader);
                    Checks.due("no two alike", x.style(3, 2), 1);
                }
            }
            Checks.due("a leader again", x.setStop(3, position, 0, 3), 0);
            Checks.due("a bar in its place", x.setStop(3, position, 4, 0), 0);
            Checks.dueStop(x, 3, 0, position, 4, 0);
            Checks.due("removeStop", x.removeStop(3, 0), 0);
            Checks.due("own stops", x.style(3, 2), 0);
        }
    }

    private static TabLines eightStops() {
        TabLines x = withParagraph();
        for (int i = 0; i < 8; i++) {
            Checks.due("setStop", x.setStop(2, 10 + 5 * i, i % 5, 0), i);
        }
        return x;
    }

    private static void stops() {
        Checks.sentence("at most 8 own stops, numbered from 0 by ascending positions");
        TabLines x = eightStops();
        Checks.due("own stops", x.style(2, 2), 8);
        Checks.dueStop(x, 2, 0, 10, 0, 0);
        Checks.dueStop(x, 2, 7, 45, 2, 0);
        Checks.due("stop 8", x.stop(2, 8, 0), Checks.NONE);
        Checks.due("own stops of another style", x.style(1, 2), 0);
        x = new TabLines();
        for (int i = 0; i < 8; i++) {
            Checks.due("each new one is ahead of the others", x.setStop(2, 80 - i, 1, 1), 0);
        }
        for (int i = 0; i < 8; i++) {
            Checks.due("ascending", x.stop(2, i, 0), 73 + i);
        }
        Checks.sentence("CAPACITY_EXCEEDED if there would be 9 stops.");
        for (int kind = 0; kind < 5; kind++) {
            int of = kind;
            Checks.refused("a ninth", RoomTest::eightStops, y -> y.setStop(2, 9, of, 0),
                    Checks.FULL);
            Checks.refused("a ninth", RoomTest::eightStops, y -> y.setStop(2, 80, of, 0),
                    Checks.FULL);
        }
        Checks.due("another style", eightStops().setStop(3, 9, 0, 0), 0);
        x = eightStops();
        Checks.due("one less", x.removeStop(2, 7), 7);
        Checks.due("an eighth again", x.setStop(2, 1, 4, 0), 0);
        Checks.due("a ninth", x.setStop(2, 2, 4, 0), Checks.FULL);
        x.removeStop(2, 7);
        Checks.due("an eighth at the greatest position", x.setStop(2, 80, 0, 0), 7);
        Checks.due("a ninth", x.setStop(2, 79, 0, 0), Checks.FULL);
        Checks.due("in place of the one at 80", x.setStop(2, 80, 1, 1), 7);
        Checks.due("in place of the one at 1", x.setStop(2, 1, 1, 1), 0);
        Checks.due("without the one at 1", x.removeStop(2, 0), 7);
        Checks.dueStop(x, 2, 0, 10, 0, 0);
        Checks.due("only the one at 80 is behind it", x.stop(2, 6, 0), 80);
        Checks.due("without the one at 80", x.removeStop(2, 6), 6);
        Checks.due("stop 6", x.stop(2, 6, 0), Checks.NONE);
        x = new TabLines();
        x.setStop(2, 1, 0, 0);
        x.setStop(2, 80, 0, 0);
        Checks.due("the one at 80 is left", x.removeStop(2, 0), 1);
        Checks.dueStop(x, 2, 0, 80, 0, 0);
        Checks.sentence("Sets a stop of a style, in place of one at the same position.");
        x = eightStops();
        Checks.due("in place of the first", x.setStop(2, 10, 4, 0), 0);
        Checks.dueStop(x, 2, 0, 10, 4, 0);
        Checks.due("in place of the last", x.setStop(2, 45, 1, 3), 7);
        Checks.dueStop(x, 2, 7, 45, 1, 3);
        Checks.due("in place of a bar", x.setStop(2, 30, 0, 2), 4);
        Checks.dueStop(x, 2, 4, 30, 0, 2);
        Checks.due("own stops", x.style(2, 2), 8);
        Checks.sentence("Returns the number of stops that are left");
        x = eightStops();
        Checks.due("without the first", x.removeStop(2, 0), 7);
        Checks.dueStop(x, 2, 0, 15, 1, 0);
        Checks.due("without the last", x.removeStop(2, 6), 6);
        Checks.dueStop(x, 2, 5, 40, 1, 0);
        for (int left = 5; left >= 0; left--) {
            Checks.due("without the first", x.removeStop(2, 0), left);
        }
        Checks.due("no stop", x.removeStop(2, 0), Checks.INVALID);
    }

    private static TabLines eightParagraphs() {
        TabLines x = new TabLines();
        for (int i = 0; i < 8; i++) {
            Checks.due("addParagraph", x.addParagraph(i % 4), i);
            x.addWord(i, 0, i, 1);
        }
        return x;
    }

    private static void dueLetters(TabLines x, String letters) {
        Checks.due("paragraphs", x.count(2), letters.length());
        for (int i = 0; i < letters.length(); i++) {
            Checks.dueText(x, i, " " + letters.charAt(i));
            Checks.due("style", x.setStyle(i, (letters.charAt(i) - 'a') % 4),
                    (letters.charAt(i) - 'a') % 4);
        }
        Checks.due("no more", x.lines(letters.length()), Checks.INVALID);
    }

    private static void paragraphs() {
        Checks.sentence("CAPACITY_EXCEEDED if there are 8 paragraphs.");
        for (int style = 0; style < 4; style++) {
            int of = style;
            Checks.refused("a ninth", RoomTest::eightParagraphs, x -> x.addParagraph(of),
                    Checks.FULL);
        }
        TabLines x = eightParagraphs();
        x.removeParagraph(3);
        Checks.due("an eighth again", x.addParagraph(2), 7);
        Checks.due("a ninth", x.addParagraph(2), Checks.FULL);
        Checks.sentence("There are at most 8 paragraphs, numbered from 0; if one is removed, the"
                + " numbers of those behind it decrease by 1.");
        dueLetters(eightParagraphs(), "abcdefgh");
        int[] removed = {0, 1, 4, 6, 7};
        String[] left = {"bcdefgh", "acdefgh", "abcdfgh", "abcdefh", "abcdefg"};
        for (int i = 0; i < removed.length; i++) {
            x = eightParagraphs();
            Checks.due("removeParagraph", x.removeParagraph(removed[i]), 7);
            dueLetters(x, left[i]);
        }
        x = eightParagraphs();
        for (int i = 7; i >= 0; i--) {
            Checks.due("removeParagraph(0)", x.removeParagraph(0), i);
        }
        Checks.due("none is left", x.removeParagraph(0), Checks.INVALID);
        Checks.sentence("Adds a paragraph without text.");
        x = eightParagraphs();
        x.removeParagraph(0);
        Checks.due("addParagraph", x.addParagraph(1), 7);
        Checks.dueText(x, 7, "");
        Checks.due("lines", x.lines(7), 1);
        Checks.dueField(x, 7, 0, 0, 0, 0, -9, -9, -9);
        Checks.due("field 1", x.field(7, 1, 0), Checks.NONE);
        Checks.due("spaces", x.holds(7, 3), 40);
        Checks.due("the style is not that of another", x.setStyle(7, 1), 1);
        Checks.write(x, 7, "z");
        Checks.dueText(x, 6, " h");
        Checks.dueText(x, 0, " b");
    }

    private static void characters() {
        Checks.sentence("A paragraph has a style and a text of at most 80 characters");
        TabLines x = withParagraph();
        Checks.write(x, 0, "a".repeat(79) + "z");
        Checks.due("the last one", x.character(0, 79), 'z');
        Checks.due("behind it", x.character(0, 80), Checks.NONE);
        Checks.sentence("CAPACITY_EXCEEDED if the text is longer than 80 characters.");
        for (int length = 81; length <= 100; length += 19) {
            String text = "a".repeat(length);
            Checks.refused("takeText of " + length, () -> {
                TabLines y = withText("bc\td");
                Checks.type(y, text);
                return y;
            }, y -> y.takeText(0), Checks.FULL);
        }
        Checks.sentence("letters a to z, digits, \".\", \",\", spaces and tabs (code 9).");
        allCharacters();
        Checks.sentence("-2000 minus the offset of the first character of the text that a"
                + " paragraph cannot have");
        for (int offset = 0; offset < 100; offset += 33) {
            String text = "a".repeat(offset) + "_" + "-".repeat(99 - offset);
            Checks.refused("takeText", () -> {
                TabLines y = withText("bc\td");
                Checks.type(y, text);
                return y;
            }, y -> y.takeText(0), -2000 - offset);
        }
        Checks.sentence("Takes the text as that of a paragraph, in place of what it has. The text"
                + " becomes empty.");
        x = withText("abc\tdef");
        Checks.due("an empty text", x.takeText(0), 0);
        Checks.dueText(x, 0, "");
        Checks.write(x, 0, "b");
        Checks.dueText(x, 0, "b");
        Checks.due("the text", x.count(4), 0);
        Checks.due("which is taken again", x.takeText(0), 0);
    }

    /** Each of the 256 characters alone: 38 letters, digits, marks, and the two that part. */
    private static void allCharacters() {
        int taken = 0;
        for (int character = 0; character < 256; character++) {
            boolean allowed = character >= 'a' && character <= 'z'
                    || character >= '0' && character <= '9' || character == '.'
                    || character == ',' || character == ' ' || character == 9;
            TabLines x = withParagraph();
            x.appendCharacter(character);
            Checks.due("takeText of " + character, x.takeText(0), allowed ? 1 : -2000);
            Checks.due("character", x.character(0, 0), allowed ? character : Checks.NONE);
            taken += allowed ? 1 : 0;
        }
        Checks.due("characters that a paragraph can have", taken, 40);
    }

    private static void styles() {
        Checks.sentence("Gives a paragraph another style.");
        for (int style = 0; style < 4; style++) {
            TabLines x = young("");
            x.addParagraph(3);
            Checks.due("setStyle", x.setStyle(0, style), 0);
            Checks.due("setStyle", x.setStyle(1, style), 3);
            Checks.due("its first indent", x.field(0, 0, 1), style);
            Checks.due("that of the last one", x.field(1, 0, 1), style);
            Checks.due("undo", x.undo(), 5);
            Checks.due("its first indent", x.field(0, 0, 1), style);
            Checks.due("that of the last one", x.field(1, 0, 1), 3);
            Checks.due("undo", x.undo(), 4);
            Checks.due("its first indent", x.field(0, 0, 1), 0);
        }
    }

    private static TabLines ofLength(int length) {
        return withText("x".repeat(length));
    }

    private static void words() {
        Checks.sentence("Adds a word behind the text of a paragraph, with a space or a tab ahead of"
                + " it.");
        TabLines x = withParagraph();
        Checks.due("behind nothing", x.addWord(0, 0, 0, 1), 2);
        Checks.due("behind it", x.addWord(0, 1, 25, 2), 5);
        Checks.dueText(x, 0, " a\tzz");
        Checks.due("one letter", withParagraph().addWord(0, 1, 0, 1), 2);
        Checks.due("thirty", withParagraph().addWord(0, 1, 0, 30), 31);
        Checks.sentence("CAPACITY_EXCEEDED if it would be more than 80.");
        for (int tab = 0; tab < 2; tab++) {
            int of = tab;
            x = ofLength(49);
            Checks.due("just room for a word", x.addWord(0, of, 3, 30), 80);
            Checks.due("its last letter", x.character(0, 79), 'd');
            Checks.refused("no room for a word", () -> ofLength(50), y -> y.addWord(0, of, 3, 30),
                    Checks.FULL);
            Checks.due("just room for a letter", ofLength(78).addWord(0, of, 3, 1), 80);
            Checks.refused("no room for a letter", () -> ofLength(79), y -> y.addWord(0, of, 3, 1),
                    Checks.FULL);
            Checks.refused("full", () -> ofLength(80), y -> y.addWord(0, of, 3, 1), Checks.FULL);
        }
    }

    private static void amounts() {
        Checks.sentence("Adds a tab and an amount behind the text of a paragraph: the whole part"
                + " with as many digits as it has, \".\", and two digits.");
        int[] hundredths = {0, 1, 9, 10, 99, 100, 101, 999, 1000, 9999, 10000, 99999, 100000,
            999999, 1000000, 1234567, 9000009, 9999999};
        String[] due = {"0.00", "0.01", "0.09", "0.10", "0.99", "1.00", "1.01", "9.99", "10.00",
            "99.99", "100.00", "999.99", "1000.00", "9999.99", "10000.00", "12345.67", "90000.09",
            "99999.99"};
        for (int i = 0; i < due.length; i++) {
            TabLines x = withText("a");
            Checks.due("addAmount", x.addAmount(0, hundredths[i]), 2 + due[i].length());
            Checks.dueText(x, 0, "a\t" + due[i]);
            int room = 79 - due[i].length();
            int amount = hundredths[i];
            Checks.due("just room", ofLength(room).addAmount(0, amount), 80);
            Checks.refused("no room", () -> ofLength(room + 1), y -> y.addAmount(0, amount),
                    Checks.FULL);
        }
    }

    private static TabLines ofHundred() {
        TabLines x = withParagraph();
        for (int length = 1; length <= 100; length++) {
            Checks.due("appendCharacter", x.appendCharacter(length <= 99 ? ' ' : 'x'), length);
        }
        return x;
    }

    private static void text() {
        Checks.sentence("CAPACITY_EXCEEDED if the text has 100 characters.");
        for (int character = 0; character < 256; character += 51) {
            int of = character;
            Checks.refused("a 101st", RoomTest::ofHundred, x -> x.appendCharacter(of),
                    Checks.FULL);
        }
        TabLines x = ofHundred();
        Checks.due("the 100th stands", x.loadStops(0), -1099);
        Checks.sentence("Stops can be read from a text of at most 100 characters, which is built one"
                + " character at a time (it is also the way by which paragraphs get texts)");
        x = withParagraph();
        Checks.type(x, "b80;" + " ".repeat(95) + ";");
        Checks.due("the 100th is read", x.loadStops(0), -1099);
        x.clearText();
        Checks.type(x, " ".repeat(96) + "b80;");
        Checks.due("all 100 are read", x.loadStops(0), 1);
        Checks.dueStop(x, 0, 0, 80, 4, 0);
        x = ofHundred();
        Checks.sentence("Makes the text empty.");
        Checks.due("clearText", x.clearText(), 100);
        Checks.due("length", x.count(4), 0);
        Checks.due("clearText", x.clearText(), 0);
        Checks.due("appendCharacter", x.appendCharacter(0), 1);
        Checks.due("clearText", x.clearText(), 1);
        Checks.sentence("Returns the previous length of the text.");
        for (int length = 0; length <= 100; length += 20) {
            x = new TabLines();
            Checks.type(x, "*".repeat(length));
            Checks.due("clearText", x.clearText(), length);
            Checks.due("clearText", x.clearText(), 0);
        }
        Checks.sentence("0 for the first one");
        x = withText("\t,");
        Checks.due("the first one", x.character(0, 0), 9);
        Checks.due("the last one", x.character(0, 1), ',');
        Checks.due("behind it", x.character(0, 2), Checks.NONE);
        Checks.due("of none", withParagraph().character(0, 0), Checks.NONE);
    }

    /** Has five saved states, so that a sixth has room, and styles that can be told apart. */
    private static TabLines young(String text) {
        TabLines x = withParagraph();
        x.setStop(1, 9, 1, 2);
        for (int style = 1; style < 4; style++) {
            x.setIndent(style, 0, style);
        }
        Checks.type(x, text);
        return x;
    }

    private static void saves(String what, String text, int due, Checks.Call call) {
        TabLines x = young(text);
        List<Integer> before = Checks.look(x);
        Checks.due(what, call.on(x), due);
        Checks.due("states saved behind " + what, x.count(5), 6);
        Checks.due("undo of " + what, x.undo(), 5);
        Checks.same("undo of " + what, Checks.look(x), before);
        x = young(text);
        call.on(x);
        int length = x.count(4);
        x.undo();
        Checks.due("the text behind undo of " + what, x.count(4), length);
    }

    private static void whatSaves() {
        Checks.sentence("Every successful call of setNumber(), setIndent(), setStop(),"
                + " removeStop(), loadStops(), addParagraph(), removeParagraph(), setStyle(),"
                + " takeText(), addWord() and addAmount() saves the state that preceded it, which"
                + " consists of everything but the text.");
        saves("W", "x", 40, x -> x.setNumber(0, 20));
        saves("the same W", "x", 40, x -> x.setNumber(0, 40));
        saves("D", "x", 8, x -> x.setNumber(1, 2));
        saves("the same D", "x", 8, x -> x.setNumber(1, 8));
        for (int style = 0; style < 4; style++) {
            int of = style;
            saves("first indent", "x", of, x -> x.setIndent(of, 0, 19));
            saves("hanging indent", "x", 4, x -> x.setIndent(of, 1, 0));
            saves("the same indent", "x", 4, x -> x.setIndent(of, 1, 4));
            saves("setStop", "x", of == 1 ? 1 : 0, x -> x.setStop(of, 80, 4, 0));
            saves("loadStops", "l1;m80_;", 2, x -> x.loadStops(of));
            saves("loadStops of nothing", "", 0, x -> x.loadStops(of));
            saves("addParagraph", "x", 1, x -> x.addParagraph(of));
            saves("setStyle", "x", 0, x -> x.setStyle(0, of));
        }
        saves("setStop in place", "x", 0, x -> x.setStop(1, 9, 0, 3));
        saves("the same stop", "x", 0, x -> x.setStop(1, 9, 1, 2));
        saves("removeStop", "x", 0, x -> x.removeStop(1, 0));
        saves("loadStops of the same stop", "r9-;", 1, x -> x.loadStops(1));
        saves("removeParagraph", "x", 0, x -> x.removeParagraph(0));
        saves("takeText", "ab\tc", 4, x -> x.takeText(0));
        saves("takeText of nothing", "", 0, x -> x.takeText(0));
        saves("addWord", "x", 31, x -> x.addWord(0, 0, 3, 30));
        saves("addAmount", "x", 9, x -> x.addAmount(0, 9999999));
    }

    private static void keeps(String what, Checks.Call call) {
        Supplier<TabLines> made = () -> {
            TabLines x = young("r8;");
            x.addWord(0, 0, 0, 9);
            x.addAmount(0, 100);
            return x;
        };
        Checks.unchanged(what, made, call);
    }

    private static void whatDoesNotSave() {
        TabLines x = young("l8;");
        Checks.due("appendCharacter", x.appendCharacter('x'), 4);
        Checks.due("states saved", x.count(5), 5);
        Checks.due("clearText", x.clearText(), 4);
        Checks.due("states saved", x.count(5), 5);
        for (int what = -1; what < 7; what++) {
            int of = what;
            keeps("count", y -> y.count(of));
            keeps("style", y -> y.style(1, of));
            keeps("stop", y -> y.stop(1, 0, of));
            keeps("field", y -> y.field(0, 1, of));
            keeps("holds", y -> y.holds(0, of));
        }
        keeps("character", y -> y.character(0, 0));
        keeps("lines", y -> y.lines(0));
        keeps("cell", y -> y.cell(0, 0, 0));
        keeps("linesWith", y -> y.linesWith(0, 20));
        keeps("leastColumns", y -> y.leastColumns(0, 1));
        keeps("leastColumns", y -> y.leastColumns(0, 99));
    }

    /** An object behind so many changes, each of another kind than the one ahead of it. */
    private static TabLines changed(int changes) {
        TabLines x = new TabLines();
        for (int i = 0; i < changes; i++) {
            switch (i % 5) {
                case 0: x.setNumber(0, 20 + i); break;
                case 1: x.setIndent(i % 4, i / 5 % 2, 10 + i % 9); break;
                case 2: x.addParagraph(i % 4); break;
                case 3: x.addWord(0, i % 2, i % 26, 1 + i % 4); break;
                default: x.setStop(i % 4, 1 + i, 1, 2);
            }
        }
        return x;
    }

    private static void seventh() {
        Checks.sentence("At most 6 states are saved; when a seventh is saved, the oldest one is"
                + " discarded.");
        for (int changes = 0; changes <= 20; changes++) {
            int saved = Math.min(6, changes);
            TabLines x = changed(changes);
            Checks.due("states saved behind " + changes, x.count(5), saved);
            for (int left = saved - 1; left >= 0; left--) {
                Checks.due("undo", x.undo(), left);
            }
            Checks.due("undo behind the last", x.undo(), Checks.ILLEGAL);
            Checks.same("all undone of " + changes, withoutNumberOfSaved(x),
                    withoutNumberOfSaved(changed(changes - saved)));
        }
        Checks.sentence("Restores the most recently saved state and discards it.");
        for (int undone = 0; undone <= 6; undone++) {
            TabLines x = changed(17);
            for (int i = 0; i < undone; i++) {
                Checks.due("undo", x.undo(), 5 - i);
            }
            Checks.due("states saved", x.count(5), 6 - undone);
            Checks.same("undone " + undone, withoutNumberOfSaved(x),
                    withoutNumberOfSaved(changed(17 - undone)));
        }
    }

    private static List<Integer> withoutNumberOfSaved(TabLines x) {
        List<Integer> all = Checks.look(x);
        all.remove(4);
        return all;
    }

    private static void undoAndOn() {
        Checks.sentence("Returns the number of states that are still saved; ILLEGAL_STATE if there"
                + " is none.");
        TabLines x = new TabLines();
        x.setNumber(0, 30);
        Checks.due("undo", x.undo(), 0);
        Checks.due("W", x.count(0), 40);
        Checks.due("an undo saves nothing", x.undo(), Checks.ILLEGAL);
        Checks.due("W", x.count(0), 40);
        for (int w = 41; w <= 47; w++) {
            x.setNumber(0, w);
        }
        Checks.due("undo", x.undo(), 5);
        Checks.due("undo", x.undo(), 4);
        Checks.due("W", x.count(0), 45);
        for (int w = 51; w <= 53; w++) {
            Checks.due("on from there", x.setNumber(0, w), w == 51 ? 45 : w - 1);
        }
        int[] widths = {52, 51, 45, 44, 43, 42};
        for (int i = 0; i < 6; i++) {
            Checks.due("undo", x.undo(), 5 - i);
            Checks.due("W", x.count(0), widths[i]);
        }
        Checks.due("undo", x.undo(), Checks.ILLEGAL);
        Checks.due("W", x.count(0), 42);
    }

    /** All that can be full comes back whole. */
    private static void undoOfTheFull() {
        Checks.sentence("saves the state that preceded it, which consists of everything but the"
                + " text.");
        TabLines x = eightParagraphs();
        Checks.write(x, 7, "a".repeat(79) + "z");
        x.removeParagraph(0);
        x.undo();
        Checks.dueText(x, 7, "a".repeat(79) + "z");
        Checks.dueText(x, 0, " a");
        Checks.write(x, 7, "b");
        x.undo();
        Checks.dueText(x, 7, "a".repeat(79) + "z");
        x.removeParagraph(7);
        x.undo();
        Checks.dueText(x, 7, "a".repeat(79) + "z");
        x = eightStops();
        x.setStop(2, 45, 3, 3);
        x.removeStop(2, 0);
        x.loadStops(2);
        Checks.due("no stops", x.style(2, 2), 0);
        x.undo();
        x.undo();
        x.undo();
        Checks.due("eight stops", x.style(2, 2), 8);
        Checks.dueStop(x, 2, 0, 10, 0, 0);
        Checks.dueStop(x, 2, 7, 45, 2, 0);
        x = withParagraph();
        Checks.type(x, "ab");
        x.takeText(0);
        Checks.type(x, "xyz");
        x.undo();
        Checks.dueText(x, 0, "");
        Checks.due("the text is that of now", x.takeText(0), 3);
        Checks.dueText(x, 0, "xyz");
    }

    public static void main(String[] args) {
        newObject();
        fourStyles();
        eachStop();
        stops();
        paragraphs();
        characters();
        styles();
        words();
        amounts();
        text();
        whatSaves();
        whatDoesNotSave();
        seventh();
        undoAndOn();
        undoOfTheFull();
        Checks.end();
    }
}
