import java.util.ArrayList;
import java.util.List;

/** Stops that are read from a text: what is allowed where, and the error positions. */
public final class StopsTextTest {
    private static final String EIGHT = "l1;r2;m3;p4;b5;l6.;r7-;m8_;";

    /** An object whose style 2 has other stops than the text is going to give. */
    private static TabLines with(String text) {
        TabLines x = new TabLines();
        x.addParagraph(2);
        x.setStop(2, 33, 3, 3);
        x.setStop(2, 66, 4, 0);
        Checks.type(x, text);
        return x;
    }

    /** A text that is read: position, kind and leader of each stop, in their order. */
    private static void read(String text, int... stops) {
        TabLines x = with(text);
        int number = stops.length / 3;
        Checks.due("loadStops of <" + text + ">", x.loadStops(2), number);
        Checks.due("stops of <" + text + ">", x.style(2, 2), number);
        for (int i = 0; i < number; i++) {
            Checks.dueStop(x, 2, i, stops[3 * i], stops[3 * i + 1], stops[3 * i + 2]);
        }
        Checks.due("length of the text", x.count(4), 0);
        Checks.due("states saved", x.count(5), 4);
        Checks.due("undo", x.undo(), 3);
        Checks.dueStop(x, 2, 0, 33, 3, 3);
        Checks.dueStop(x, 2, 1, 66, 4, 0);
        Checks.due("stops behind undo()", x.style(2, 2), 2);
    }

    private static void error(String text, int position) {
        Checks.refused("loadStops of <" + text + ">", () -> with(text), x -> x.loadStops(2),
                -1000 - position);
    }

    private static void items() {
        Checks.sentence("a sequence of items, perhaps empty, each of which ends with \";\"");
        read("");
        read("l8;", 8, 0, 0);
        read("l8;r9;", 8, 0, 0, 9, 1, 0);
        error("l8", 2);
        error("l8;r9", 5);
        error(";", 0);
        error(";l8;", 0);
        error("l8;;", 3);
        error("l8,r9;", 2);
        error("l8r9;", 2);
        Checks.sentence("\"l\", \"r\", \"m\", \"p\" or \"b\" (for the kinds 0 to 4), a position, and"
                + " perhaps \".\", \"-\" or \"_\" (not for \"b\")");
        read("l40;", 40, 0, 0);
        read("r40;", 40, 1, 0);
        read("m40;", 40, 2, 0);
        read("p40;", 40, 3, 0);
        read("b40;", 40, 4, 0);
        String kinds = "lrmp";
        String leaders = ".-_";
        for (int kind = 0; kind < 4; kind++) {
            for (int leader = 1; leader <= 3; leader++) {
                read(kinds.charAt(kind) + "7" + leaders.charAt(leader - 1) + ";", 7, kind, leader);
            }
        }
        for (int leader = 0; leader < 3; leader++) {
            char sign = leaders.charAt(leader);
            error("b7" + sign + ";", 2);
            error("b70" + sign + ";", 3);
            error("b 7 " + sign + ";", 4);
            error("l" + sign + "7;", 1);
            error(sign + "l7;", 0);
            for (int other = 0; other < 3; other++) {
                error("l7" + sign + leaders.charAt(other) + ";", 3);
            }
        }
        error("ll7;", 1);
        error("l7l;", 2);
        error("7;", 0);
        error("7l;", 0);
        error("l;", 1);
        error("l.;", 1);
        error("l7.8;", 3);
        error("l-7;", 1);
    }

    private static void positions() {
        Checks.sentence("A position is 1 or 2 digits, the first of which is not 0.");
        for (int position = 1; position <= 80; position++) {
            TabLines x = with("r" + position + ";");
            Checks.due("loadStops", x.loadStops(2), 1);
            Checks.dueStop(x, 2, 0, position, 1, 0);
        }
        read("l10;l1;", 1, 0, 0, 10, 0, 0);
        error("l0;", 1);
        error("l00;", 1);
        error("l08;", 1);
        error("l 08;", 2);
        error("l100;", 3);
        error("l800;", 3);
        error("l123;", 3);
        error("l80", 3);
        error("l8/;", 2);
        error("l8:;", 2);
        error("l/;", 1);
        error("l:;", 1);
    }

    private static void spaces() {
        Checks.sentence("Spaces (code 32) may stand everywhere except within a position (so of \"l1"
                + " 2;\" the \"2\" is not allowed).");
        read(" ");
        read(" ".repeat(100));
        read(" l8;", 8, 0, 0);
        read("l 8;", 8, 0, 0);
        read("l8 ;", 8, 0, 0);
        read("l8; ", 8, 0, 0);
        read("l8 .;", 8, 0, 1);
        read("l8. ;", 8, 0, 1);
        read("  p  80  _  ;  b  1  ;  ", 1, 4, 0, 80, 3, 3);
        read("l8;" + " ".repeat(97), 8, 0, 0);
        read(" ".repeat(97) + "l8;", 8, 0, 0);
        error("l1 2;", 3);
        error("l1  2;", 4);
        error("l 1 2;", 4);
        error("l8\t;", 2);
        error("\tl8;", 0);
        error("l\t8;", 1);
        error("l8;\t", 3);
        error("l8\n;", 2);
        for (int character = 0; character < 256; character++) {
            if ("lrmpb ".indexOf(character) < 0) {
                error("l8;" + (char) character, 3);
            }
        }
    }

    private static void errorPositions() {
        Checks.sentence("the error position is the offset (from 0) of the first character that is"
                + " not allowed where it stands");
        error("x", 0);
        error("L8;", 0);
        error("l8;x", 3);
        error("xl0;", 0);
        error("l0;x", 1);
        error("l8;" + " ".repeat(96) + "x", 99);
        Checks.sentence("The text is read from left to right");
        error("l8;b8;b7.;", 4);
        error("b7.;l8;b8;", 2);
        error("l99;x", 1);
        error("x;l99;", 0);
        error("l5 5;l99;", 3);
        error("l99;l5 5;", 1);
        error("l1 2", 3);
        Checks.sentence("(for a position above 80, or one that another item of the text has, its"
                + " first digit; the letter of a ninth item)");
        for (int position = 81; position <= 99; position++) {
            error("l" + position + ";", 1);
        }
        error("l 81;", 2);
        error("l81", 1);
        error("l81.;", 1);
        error("l811;", 1);
        error("l81x", 1);
        error("b99;", 1);
        error("l8;r99;", 4);
        error("l8;l8;", 4);
        error("l8;b8;", 4);
        error("b8;l8;", 4);
        error("l8.;r 8-;", 6);
        error("l80;l80;", 5);
        error("l12;r12;", 5);
        error("l12;r  12  ;", 7);
        error("l1;l2;l3;l2;", 10);
        error("l8;r8", 4);
        error("l8;r8 ", 4);
        error("l12;r12", 5);
        error("l8;r8x", 4);
        error("l8;r8 8;", 4);
        error("l8;r888;", 4);
        error("l8;r800;", 6);
        read("l8;r80;", 8, 0, 0, 80, 1, 0);
        read("l1;r12;m2;", 1, 0, 0, 2, 2, 0, 12, 1, 0);
        read("l33;b66;", 33, 0, 0, 66, 4, 0);
        error(EIGHT + "l9;", 27);
        error(EIGHT + "b9;", 27);
        error(EIGHT + "  l9;", 29);
        error(EIGHT + "l1;", 27);
        error(EIGHT + "l", 27);
        error(EIGHT + "l99", 27);
        error(EIGHT + ";", 27);
        error(EIGHT + "x", 27);
        error("x" + EIGHT + "l9;", 0);
        read(EIGHT, 1, 0, 0, 2, 1, 0, 3, 2, 0, 4, 3, 0, 5, 4, 0, 6, 0, 1, 7, 1, 2, 8, 2, 3);
        read(EIGHT + "   ", 1, 0, 0, 2, 1, 0, 3, 2, 0, 4, 3, 0, 5, 4, 0, 6, 0, 1, 7, 1, 2, 8, 2, 3);
    }

    private static void ends() {
        Checks.sentence("If the text ends where something is missing, it is the length of the"
                + " text.");
        List<String> missing = new ArrayList<>(List.of("l", "r", "m", "p", "b", "l8", "l80", "l8.",
                "l8-", "l8_", "b8", "l8;r", "l8;r9", "l8;r9.", "l ", "l8 ", "l8. ", "l8;r ",
                "l8;  r  9  -  ", "l" + " ".repeat(99), "l8" + " ".repeat(98)));
        for (String text : missing) {
            error(text, text.length());
        }
        // The remains of a longer text do not count.
        TabLines x = with("l8;r9.;");
        x.clearText();
        Checks.type(x, "l8");
        Checks.due("loadStops", x.loadStops(2), -1002);
        x.clearText();
        Checks.due("loadStops", x.loadStops(2), 0);
    }

    private static void instead() {
        Checks.sentence("Reads the text as the stops of a style, in place of those that it has. The"
                + " text becomes empty.");
        read("  ");
        read("b33;", 33, 4, 0);
        for (int style = 0; style < 4; style++) {
            TabLines x = new TabLines();
            for (int other = 0; other < 4; other++) {
                x.setStop(other, 10 + other, 1, 1);
            }
            Checks.type(x, "l60;l50;");
            Checks.due("loadStops", x.loadStops(style), 2);
            for (int other = 0; other < 4; other++) {
                Checks.due("first stop", x.stop(other, 0, 0), other == style ? 50 : 10 + other);
                Checks.due("stops", x.style(other, 2), other == style ? 2 : 1);
            }
            Checks.due("the text is read once", x.loadStops(style), 0);
            Checks.due("no stops", x.style(style, 2), 0);
        }
        TabLines full = new TabLines();
        for (int position = 71; position <= 78; position++) {
            full.setStop(0, position, 0, 0);
        }
        Checks.type(full, EIGHT);
        Checks.due("eight in place of eight", full.loadStops(0), 8);
        Checks.dueStop(full, 0, 0, 1, 0, 0);
        Checks.dueStop(full, 0, 7, 8, 2, 3);
        Checks.due("a ninth", full.setStop(0, 9, 0, 0), Checks.FULL);
    }

    public static void main(String[] args) {
        items();
        positions();
        spaces();
        errorPositions();
        ends();
        instead();
        Checks.end();
    }
}
