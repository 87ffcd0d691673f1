/** How lines are filled, at the edges: what just has room, and what is one column too long. */
public final class LineEdgesTest {
    private static final int LEFT = 0;
    private static final int RIGHT = 1;
    private static final int MIDDLE = 2;
    private static final int POINT = 3;
    private static final int AS_IT_SHOULD = 0;
    private static final int PASSES = 1;
    private static final int MOVED_BACK = 2;

    /** One paragraph of the style 0, with this W and these indents. */
    private static TabLines made(int w, int first, int hanging, String stops, String text) {
        TabLines x = new TabLines();
        x.setNumber(0, w);
        x.setIndent(0, 0, first);
        x.setIndent(0, 1, hanging);
        Checks.stops(x, 0, stops);
        x.addParagraph(0);
        Checks.write(x, 0, text);
        return x;
    }

    private static String row(char sign, int length) {
        return String.valueOf(sign).repeat(length);
    }

    private static void dueHolds(TabLines x, int words, int leaders, int bars, int spaces) {
        int[] due = {words, leaders, bars, spaces};
        for (int what = 0; what < 4; what++) {
            Checks.due("holds(0, " + what + ")", x.holds(0, what), due[what]);
        }
    }

    private static void emptyOnes() {
        Checks.sentence("Returns the number, at least 1");
        String[] texts = {"", " ", row(' ', 80)};
        for (String text : texts) {
            TabLines x = made(20, 7, 3, "", text);
            Checks.dueLines(x, 0, "");
            Checks.dueField(x, 0, 0, 0, 7, 0, -9, -9, -9);
            Checks.due("field 1", x.field(0, 1, 0), Checks.NONE);
            Checks.due("line 1", x.cell(0, 1, 0), Checks.NONE);
            dueHolds(x, 0, 0, 0, 20);
            Checks.due("leastColumns", x.leastColumns(0, 1), 20);
            Checks.due("linesWith", x.linesWith(0, 80), 1);
            Checks.due("all lines", x.count(3), 1);
        }
        Checks.sentence("The tabs part the text into fields, numbered from 0 (the field 0 is ahead"
                + " of the first tab; a field can be empty).");
        TabLines x = made(20, 0, 4, "", "\t");
        Checks.dueField(x, 0, 0, 0, 0, 0, -9, -9, -9);
        Checks.dueField(x, 0, 1, 0, 8, 0, 8, LEFT, AS_IT_SHOULD);
        Checks.due("field 2", x.field(0, 2, 0), Checks.NONE);
        x = made(20, 0, 4, "", "a\t  \tb");
        Checks.dueLines(x, 0, "a               b");
        Checks.dueField(x, 0, 1, 0, 8, 0, 8, LEFT, AS_IT_SHOULD);
        Checks.dueField(x, 0, 2, 0, 16, 1, 16, LEFT, AS_IT_SHOULD);
        x = made(20, 0, 4, "", row('\t', 80));
        Checks.dueField(x, 0, 78, 26, 4, 0, -9, -9, -9);
        Checks.dueField(x, 0, 79, 26, 8, 0, 8, LEFT, AS_IT_SHOULD);
        Checks.dueField(x, 0, 80, 26, 16, 0, 16, LEFT, AS_IT_SHOULD);
        Checks.due("field 81", x.field(0, 81, 0), Checks.NONE);
        Checks.sentence("A field is a row of words; spaces only part words, and do not matter"
                + " otherwise.");
        Checks.dueLines(made(20, 0, 4, "", "  a   b  \t   c    d   "), 0, "a b     c d");
        Checks.dueField(made(20, 0, 4, "", "  a   b  \t   c    d   "), 0, 1, 0, 8, 3, 8, LEFT,
                AS_IT_SHOULD);
        Checks.dueLines(made(20, 0, 4, "", "a,b .c. 1,2"), 0, "a,b .c. 1,2");
    }

    private static void fieldZero() {
        Checks.sentence("The field 0 flows from the first indent of the line 0.");
        for (int first = 0; first <= 19; first++) {
            TabLines x = made(20, first, 4, "l1;", "a");
            Checks.dueField(x, 0, 0, 0, first, 1, -9, -9, -9);
            Checks.due("cell", x.cell(0, 0, first), 'a');
            x = made(20, first, 4, "l1;", "");
            Checks.dueField(x, 0, 0, 0, first, 0, -9, -9, -9);
            x = made(20, first, 4, "l20;", "\tb");
            Checks.dueField(x, 0, 0, 0, first, 0, -9, -9, -9);
        }
    }

    private static void indents() {
        Checks.sentence("with a column c, which is the first indent on its line 0, and the hanging"
                + " indent at the beginning of each further line.");
        String text = row('a', 10) + " " + row('b', 15) + " " + row('c', 15);
        Checks.dueLines(made(20, 0, 4, "", text), 0, row('a', 10), "    " + row('b', 15),
                "    " + row('c', 15));
        Checks.dueLines(made(20, 10, 0, "", text), 0, row(' ', 10) + row('a', 10), row('b', 15),
                row('c', 15));
        TabLines x = made(20, 19, 19, "", "ab c");
        Checks.dueLines(x, 0, row(' ', 19) + "a", row(' ', 19) + "b", row(' ', 19) + "c");
        Checks.dueField(x, 0, 0, 0, 19, 1, -9, -9, -9);
        x = made(20, 19, 0, "", "a b");
        Checks.dueLines(x, 0, row(' ', 19) + "a", "b");
        x = made(20, 0, 19, "", "\t\t\tabc");
        Checks.dueLines(x, 0, "", row(' ', 19) + "a", row(' ', 19) + "b", row(' ', 19) + "c");
        Checks.dueField(x, 0, 3, 1, 19, 1, -9, -9, -9);
    }

    private static void flow() {
        Checks.sentence("the next word comes with one space ahead of it, if it ends at W at most"
                + " then; otherwise a new line begins, and it comes to its beginning.");
        int[] widths = {20, 40, 80};
        for (int w : widths) {
            String end = row('b', w - 10);
            TabLines x = made(w, 0, 4, "", "aaaa bbbb " + end);
            Checks.dueLines(x, 0, "aaaa bbbb " + end);
            Checks.dueField(x, 0, 0, 0, 0, w, -9, -9, -9);
            x = made(w, 1, 4, "", "aaaa bbbb " + end.substring(1));
            Checks.dueLines(x, 0, " aaaa bbbb " + end.substring(1));
            Checks.dueField(x, 0, 0, 0, 1, w - 1, -9, -9, -9);
            x = made(w, 1, 0, "", "aaaa bbbb " + end);
            Checks.dueLines(x, 0, " aaaa bbbb", end);
            Checks.dueField(x, 0, 0, 0, 1, 9, -9, -9, -9);
        }
        Checks.dueLines(made(20, 0, 4, "", row('a', 20) + " b"), 0, row('a', 20), "    b");
        Checks.dueLines(made(20, 0, 4, "", row('a', 19) + " b"), 0, row('a', 19), "    b");
        Checks.dueLines(made(20, 0, 4, "", row('a', 18) + " b"), 0, row('a', 18) + " b");
        Checks.dueLines(made(20, 0, 4, "", "a " + row('b', 16) + " " + row('c', 16)), 0,
                "a " + row('b', 16), "    " + row('c', 16));
    }

    private static void parted() {
        Checks.sentence("A word at the beginning of a line that is longer than W - c is parted"
                + " there: as many of its characters as there is room for come, then a new line"
                + " begins, and so on with the rest.");
        Checks.dueLines(made(20, 0, 4, "", row('a', 20)), 0, row('a', 20));
        Checks.dueLines(made(20, 0, 4, "", row('a', 21)), 0, row('a', 20), "    a");
        Checks.dueLines(made(20, 3, 4, "", row('a', 17)), 0, "   " + row('a', 17));
        Checks.dueLines(made(20, 3, 4, "", row('a', 18)), 0, "   " + row('a', 17), "    a");
        Checks.dueLines(made(20, 0, 4, "", row('a', 36)), 0, row('a', 20), "    " + row('a', 16));
        Checks.dueLines(made(20, 0, 4, "", row('a', 37)), 0, row('a', 20), "    " + row('a', 16),
                "    a");
        Checks.dueLines(made(80, 0, 4, "", row('a', 80)), 0, row('a', 80));
        Checks.dueLines(made(79, 0, 4, "", row('a', 80)), 0, row('a', 79), "    a");
        Checks.dueLines(made(20, 0, 4, "", "b " + row('a', 16)), 0, "b " + row('a', 16));
        Checks.dueLines(made(20, 0, 4, "", "bbb " + row('a', 17)), 0, "bbb", "    " + row('a', 16),
                "    a");
        Checks.dueLines(made(20, 0, 0, "", row('a', 25) + " " + row('b', 14)), 0, row('a', 20),
                "aaaaa " + row('b', 14));
        Checks.dueLines(made(20, 0, 0, "", row('a', 25) + " " + row('b', 15)), 0, row('a', 20),
                "aaaaa", row('b', 15));
        TabLines x = made(20, 0, 4, "", "1234567890123456789012345.7");
        Checks.dueLines(x, 0, "12345678901234567890", "    12345.7");
        Checks.dueField(x, 0, 0, 0, 0, 20, -9, -9, -9);
        x = made(20, 19, 19, "", row('a', 80));
        Checks.due("a line for each character", x.lines(0), 80);
        Checks.due("the first one", x.cell(0, 0, 19), 'a');
        Checks.due("the last one", x.cell(0, 79, 19), 'a');
        Checks.due("behind it", x.cell(0, 80, 19), Checks.NONE);
        dueHolds(x, 80, 0, 0, 80 * 19);
    }

    private static void whichStop() {
        Checks.sentence("its tab looks for the stop with the smallest position p greater than c,"
                + " own ones (no bars) and default ones; if p is greater than W, there is none.");
        TabLines x = made(20, 0, 4, "l5;l6;", "aaaa\tb");
        Checks.dueField(x, 0, 1, 0, 5, 1, 5, LEFT, AS_IT_SHOULD);
        Checks.dueField(made(20, 0, 4, "l5;l6;", "aaaaa\tb"), 0, 1, 0, 6, 1, 6, LEFT, 0);
        Checks.dueField(made(20, 0, 4, "l5;l6;", "aaaaaa\tb"), 0, 1, 0, 8, 1, 8, LEFT, 0);
        Checks.dueField(made(20, 0, 4, "", "aaaaaaa\tb"), 0, 1, 0, 8, 1, 8, LEFT, 0);
        Checks.dueField(made(20, 0, 4, "", "aaaaaaaa\tb"), 0, 1, 0, 16, 1, 16, LEFT, 0);
        Checks.dueField(made(20, 0, 4, "b5;b6;", "aaaa\tb"), 0, 1, 0, 8, 1, 8, LEFT, 0);
        Checks.dueField(made(20, 0, 4, "b5;r7;", "aaaa\tb"), 0, 1, 0, 6, 1, 7, RIGHT, 0);
        Checks.dueField(made(20, 0, 4, "l20;", "a\t"), 0, 1, 0, 20, 0, 20, LEFT, 0);
        Checks.dueField(made(20, 0, 4, "l21;", "a\t"), 0, 1, 1, 4, 0, -9, -9, -9);
        Checks.dueField(made(21, 0, 4, "l21;", "a\t"), 0, 1, 0, 21, 0, 21, LEFT, 0);
        Checks.dueField(made(20, 0, 4, "r20;", "a\tbb"), 0, 1, 0, 18, 2, 20, RIGHT, 0);
        Checks.dueField(made(20, 0, 4, "r21;", "a\tbb"), 0, 1, 1, 4, 2, -9, -9, -9);
        Checks.dueField(made(80, 0, 4, "p80;", "a\tbb"), 0, 1, 0, 78, 2, 80, POINT, 0);
        Checks.dueField(made(79, 0, 4, "p80;", "a\tbb"), 0, 1, 1, 4, 2, -9, -9, -9);
        Checks.dueField(made(80, 0, 4, "l1;", "\tb"), 0, 1, 0, 1, 1, 1, LEFT, 0);
        Checks.dueField(made(80, 1, 4, "l1;", "\tb"), 0, 1, 0, 8, 1, 8, LEFT, 0);
        Checks.dueField(made(20, 0, 4, "l20;", row('a', 20) + "\tb"), 0, 1, 1, 4, 1, -9, -9, -9);
        Checks.sentence("Behind the greatest position of its stops that are no bars (0 without"
                + " any), each style has default stops");
        Checks.dueField(made(40, 0, 4, "l16;b24;", "a\tb\tc"), 0, 2, 0, 24, 1, 24, LEFT, 0);
        Checks.dueField(made(40, 0, 4, "l16;l24;", "a\tb\tc\td"), 0, 3, 0, 32, 1, 32, LEFT, 0);
        Checks.dueField(made(40, 0, 4, "l15;", "a\tb\tc"), 0, 1, 0, 15, 1, 15, LEFT, 0);
        Checks.dueField(made(40, 0, 4, "l15;", "a\tb\tc"), 0, 2, 0, 24, 1, 24, LEFT, 0);
        Checks.dueField(made(40, 0, 4, "l15;", "a\t\tc"), 0, 2, 0, 16, 1, 16, LEFT, 0);
        firstDefaultStops();
        Checks.sentence("3 the position of the first default stop");
        TabLines y = new TabLines();
        Checks.due("without stops", y.style(0, 3), 8);
        y.setStop(0, 7, 0, 0);
        Checks.due("behind 7", y.style(0, 3), 8);
        y.setStop(0, 8, 0, 0);
        Checks.due("behind 8", y.style(0, 3), 16);
        y.setStop(0, 80, 0, 0);
        Checks.due("behind 80", y.style(0, 3), 88);
        y.setStop(0, 80, 4, 0);
        Checks.due("a bar at 80", y.style(0, 3), 16);
    }

    private static void firstDefaultStops() {
        Checks.sentence("at all multiples of D, 2 to 20 (at first 8), that are greater; they have"
                + " the kind 0 and no leader.");
        int[] distances = {2, 7, 8, 19, 20};
        for (int d : distances) {
            TabLines x = made(80, 0, 4, "", row('\t', 9));
            x.setNumber(1, d);
            int number = 0;
            for (int p = d; p <= 80 && number < 9; p += d) {
                number++;
                Checks.dueField(x, 0, number, 0, p, 0, p, LEFT, AS_IT_SHOULD);
            }
            Checks.due("leaders", x.holds(0, 1), 0);
            Checks.due("first default stop", x.style(0, 3), d);
            int[] greatest = {d - 1, d, d + 1, 80};
            for (int last : greatest) {
                Checks.stops(x, 0, "b80;".substring(last == 80 ? 4 : 0) + "r" + last + "_;");
                Checks.due("first default stop behind " + last, x.style(0, 3), (last / d + 1) * d);
            }
            Checks.stops(x, 0, "b1;b40;b80;");
            Checks.due("first default stop with bars alone", x.style(0, 3), d);
        }
    }

    private static void noStop() {
        Checks.sentence("If there is none, a new line begins, and the field flows from its"
                + " beginning, without a stop.");
        TabLines x = made(20, 0, 4, "l20;", "a\t\tb ccccccccccccc dd\te");
        Checks.dueLines(x, 0, "a", "    b ccccccccccccc", "    dd", "    e");
        Checks.dueField(x, 0, 1, 0, 20, 0, 20, LEFT, AS_IT_SHOULD);
        Checks.dueField(x, 0, 2, 1, 4, 15, -9, -9, -9);
        Checks.dueField(x, 0, 3, 3, 4, 1, -9, -9, -9);
        x = made(20, 0, 4, "l21;", "\t" + row('a', 33) + "\t");
        Checks.dueLines(x, 0, "", "    " + row('a', 16), "    " + row('a', 16), "    a", "");
        Checks.dueField(x, 0, 1, 1, 4, 16, -9, -9, -9);
        Checks.dueField(x, 0, 2, 4, 4, 0, -9, -9, -9);
        x = made(20, 0, 0, "l21;", "\t\t\t");
        Checks.dueLines(x, 0, "", "", "", "");
        Checks.dueField(x, 0, 3, 3, 0, 0, -9, -9, -9);
    }

    private static void run() {
        Checks.sentence("which, with one space between each two, is not longer than W - p for a"
                + " stop of the kind 0, and not longer than W - c for the other kinds.");
        TabLines x = made(20, 0, 4, "l10;", "aaa\tbbb ccc dd");
        Checks.dueLines(x, 0, "aaa       bbb ccc dd");
        Checks.dueField(x, 0, 1, 0, 10, 10, 10, LEFT, AS_IT_SHOULD);
        x = made(20, 0, 4, "l10;", "aaa\tbbb ccc ddd");
        Checks.dueLines(x, 0, "aaa       bbb ccc", "    ddd");
        Checks.dueField(x, 0, 1, 0, 10, 7, 10, LEFT, AS_IT_SHOULD);
        String kinds = "rmp";
        for (int kind = RIGHT; kind <= POINT; kind++) {
            String stop = kinds.charAt(kind - 1) + "10;";
            x = made(20, 0, 4, stop, "aaa\tbbb ccc ddd eeeee");
            Checks.dueLines(x, 0, "aaabbb ccc ddd eeeee");
            Checks.dueField(x, 0, 1, 0, 3, 17, 10, kind, PASSES);
            x = made(20, 0, 4, stop, "aaa\tbbb ccc ddd eeeeee");
            Checks.due("first word of the rest", x.cell(0, 1, 4), 'e');
            Checks.due("lines", x.lines(0), 2);
            Checks.dueField(x, 0, 1, 0, kind == MIDDLE ? 5 : 3, 11, 10, kind,
                    kind == MIDDLE ? AS_IT_SHOULD : PASSES);
        }
        Checks.sentence("If the field has words, but its first one is too long for that, a new line"
                + " begins as if there was no stop.");
        x = made(20, 0, 4, "l10.;", "aaa\t" + row('b', 10));
        Checks.dueLines(x, 0, "aaa......." + row('b', 10));
        x = made(20, 0, 4, "l10.;", "aaa\t" + row('b', 11) + " c");
        Checks.dueLines(x, 0, "aaa", "    " + row('b', 11) + " c");
        Checks.dueField(x, 0, 1, 1, 4, 13, -9, -9, -9);
        Checks.due("no leaders then", x.holds(0, 1), 0);
        for (int kind = RIGHT; kind <= POINT; kind++) {
            String stop = kinds.charAt(kind - 1) + "10.;";
            x = made(20, 0, 4, stop, "aaa\t" + row('b', 17));
            Checks.dueLines(x, 0, "aaa" + row('b', 17));
            x = made(20, 0, 4, stop, "aaa\t" + row('b', 18) + " c");
            Checks.dueLines(x, 0, "aaa", "    " + row('b', 16), "    bb c");
            Checks.dueField(x, 0, 1, 1, 4, 16, -9, -9, -9);
        }
        x = made(20, 0, 4, "l20;", "a\tb");
        Checks.dueLines(x, 0, "a", "    b");
        Checks.dueField(x, 0, 1, 1, 4, 1, -9, -9, -9);
        x = made(20, 0, 4, "l19;", "a\tb");
        Checks.dueField(x, 0, 1, 0, 19, 1, 19, LEFT, AS_IT_SHOULD);
    }

    private static void beginnings() {
        Checks.sentence("let n be the length of the run (0 for an empty field); the run should"
                + " begin at p for the kind 0, at p - n for 1, at p - n / 2 for 2, and at p - k for"
                + " 3");
        String[] texts = {"", "b", "bb", "bbb", "bb bb"};
        String[] kinds = {"l", "r", "m", "p"};
        int[][] ahead = {{0, 0, 0, 0}, {0, 1, 0, 1}, {0, 2, 1, 2}, {0, 3, 1, 3}, {0, 5, 2, 5}};
        for (int i = 0; i < texts.length; i++) {
            for (int kind = LEFT; kind <= POINT; kind++) {
                TabLines x = made(40, 0, 4, kinds[kind] + "20;", "a\t" + texts[i]);
                Checks.dueField(x, 0, 1, 0, 20 - ahead[i][kind], texts[i].length(), 20, kind,
                        AS_IT_SHOULD);
            }
        }
        // An empty field behind one that is not.
        TabLines y = made(40, 0, 4, "r10;r15;m20;p25.;", "a\tbbb\t\t\t\tc");
        Checks.dueField(y, 0, 1, 0, 7, 3, 10, RIGHT, AS_IT_SHOULD);
        Checks.dueField(y, 0, 2, 0, 15, 0, 15, RIGHT, AS_IT_SHOULD);
        Checks.dueField(y, 0, 3, 0, 20, 0, 20, MIDDLE, AS_IT_SHOULD);
        Checks.dueField(y, 0, 4, 0, 25, 0, 25, POINT, AS_IT_SHOULD);
        Checks.dueField(y, 0, 5, 0, 32, 1, 32, LEFT, AS_IT_SHOULD);
        Checks.sentence("where k is the number of characters of the run ahead of its first \".\", or"
                + " n without one.");
        String[] points = {".", ".5", "1.", "1.5", "12.50", "1.2.3", "a b.c", "a .b", "a. b.",
            "1,5", "123"};
        int[] k = {0, 0, 1, 1, 2, 1, 3, 2, 1, 3, 3};
        for (int i = 0; i < points.length; i++) {
            TabLines x = made(40, 0, 4, "p20;", points[i] + "\t" + points[i]);
            Checks.dueField(x, 0, 1, 0, 20 - k[i], points[i].length(), 20, POINT, AS_IT_SHOULD);
            x = made(40, 0, 4, "p20;", "\t" + points[i]);
            Checks.dueField(x, 0, 1, 0, 20 - k[i], points[i].length(), 20, POINT, AS_IT_SHOULD);
        }
        TabLines x = made(20, 0, 4, "p15;", "aaaaaaaaaa\tbbbb c.ccccccc");
        Checks.dueField(x, 0, 1, 0, 11, 4, 15, POINT, AS_IT_SHOULD);
        x = made(20, 0, 4, "p15;", "aaaaaaaaaa\tbbbb c.ccc");
        Checks.dueField(x, 0, 1, 0, 10, 10, 15, POINT, PASSES);
    }

    private static void halves() {
        Checks.sentence("\"/\" is the division rounded down.");
        for (int n = 1; n <= 29; n++) {
            TabLines x = made(80, 0, 4, "m40;", "a\t" + row('b', n));
            Checks.dueField(x, 0, 1, 0, 40 - n / 2, n, 40, MIDDLE, AS_IT_SHOULD);
        }
        Checks.dueField(made(20, 0, 4, "m3;", "a\tbbbbb"), 0, 1, 0, 1, 5, 3, MIDDLE, AS_IT_SHOULD);
        Checks.dueField(made(20, 0, 4, "m3;", "a\tbbbbbb"), 0, 1, 0, 1, 6, 3, MIDDLE, PASSES);
    }

    private static void behindTheRun() {
        Checks.sentence("Then c goes behind the run.");
        TabLines x = made(40, 0, 4, "l10;l12;r15;", "a\tb\tc\td");
        Checks.dueField(x, 0, 2, 0, 12, 1, 12, LEFT, AS_IT_SHOULD);
        // The run ends just at the stop, which is not greater than c then.
        x = made(40, 0, 4, "l10;l12;r15;", "a\tbb\tc");
        Checks.dueField(x, 0, 2, 0, 14, 1, 15, RIGHT, AS_IT_SHOULD);
        x = made(40, 0, 4, "r10;l12;", "a\tbb\tc\td");
        Checks.dueField(x, 0, 1, 0, 8, 2, 10, RIGHT, AS_IT_SHOULD);
        Checks.dueField(x, 0, 2, 0, 12, 1, 12, LEFT, AS_IT_SHOULD);
        // Behind an empty field c is at its stop.
        x = made(40, 0, 4, "m10;l12;", "a\t\tc\td");
        Checks.dueField(x, 0, 1, 0, 10, 0, 10, MIDDLE, AS_IT_SHOULD);
        Checks.dueField(x, 0, 2, 0, 12, 1, 12, LEFT, AS_IT_SHOULD);
        // A run that passes several stops leaves them behind.
        x = made(40, 0, 4, "r3;l5;l7;l9;", "a\tbbbbbb\tc");
        Checks.dueField(x, 0, 1, 0, 1, 6, 3, RIGHT, PASSES);
        Checks.dueField(x, 0, 2, 0, 9, 1, 9, LEFT, AS_IT_SHOULD);
        // As far as W, behind which there is no stop.
        x = made(20, 0, 4, "r20;", "a\tbb\tc");
        Checks.dueField(x, 0, 1, 0, 18, 2, 20, RIGHT, AS_IT_SHOULD);
        Checks.dueField(x, 0, 2, 1, 4, 1, -9, -9, -9);
    }

    private static void passing() {
        Checks.sentence("If this is less than c, it begins at c (it passes the stop)");
        Checks.dueField(made(20, 0, 4, "r10.;", "aaa\tbbbbbb"), 0, 1, 0, 4, 6, 10, RIGHT, 0);
        TabLines x = made(20, 0, 4, "r10.;", "aaa\tbbbbbbb");
        Checks.dueField(x, 0, 1, 0, 3, 7, 10, RIGHT, AS_IT_SHOULD);
        Checks.dueLines(x, 0, "aaabbbbbbb");
        x = made(20, 0, 4, "r10.;", "aaa\tbbbbbbbb");
        Checks.dueField(x, 0, 1, 0, 3, 8, 10, RIGHT, PASSES);
        Checks.dueLines(x, 0, "aaabbbbbbbb");
        Checks.dueField(made(20, 0, 4, "m5.;", "aaa\tbbbb"), 0, 1, 0, 3, 4, 5, MIDDLE, 0);
        Checks.dueField(made(20, 0, 4, "m5.;", "aaa\tbbbbb"), 0, 1, 0, 3, 5, 5, MIDDLE, 0);
        Checks.dueField(made(20, 0, 4, "m5.;", "aaa\tbbbbbb"), 0, 1, 0, 3, 6, 5, MIDDLE, PASSES);
        Checks.dueField(made(20, 0, 4, "p5.;", "aaa\t12.5"), 0, 1, 0, 3, 4, 5, POINT, 0);
        Checks.dueField(made(20, 0, 4, "p5.;", "aaa\t123.5"), 0, 1, 0, 3, 5, 5, POINT, PASSES);
        Checks.dueField(made(20, 0, 4, "r1;", "\tbb"), 0, 1, 0, 0, 2, 1, RIGHT, PASSES);
        Checks.dueField(made(20, 0, 4, "r1;", "\tb"), 0, 1, 0, 0, 1, 1, RIGHT, AS_IT_SHOULD);
        Checks.sentence("if it would end beyond W, it begins at W - n (it is moved back).");
        Checks.dueField(made(20, 0, 4, "m18;", "a\tbbb"), 0, 1, 0, 17, 3, 18, MIDDLE, 0);
        Checks.dueField(made(20, 0, 4, "m18;", "a\tbbbb"), 0, 1, 0, 16, 4, 18, MIDDLE, 0);
        Checks.dueField(made(20, 0, 4, "m18-;", "a\tbbbbb"), 0, 1, 0, 15, 5, 18, MIDDLE,
                MOVED_BACK);
        Checks.dueLines(made(20, 0, 4, "m18-;", "a\tbbbbb"), 0, "a--------------bbbbb");
        Checks.dueField(made(20, 0, 4, "p18;", "a\t1.5"), 0, 1, 0, 17, 3, 18, POINT, 0);
        Checks.dueField(made(20, 0, 4, "p18;", "a\t1.55"), 0, 1, 0, 16, 4, 18, POINT, MOVED_BACK);
        Checks.dueField(made(20, 0, 4, "p20;", "a\t.5"), 0, 1, 0, 18, 2, 20, POINT, MOVED_BACK);
        Checks.dueField(made(20, 0, 4, "m20;", "a\tb"), 0, 1, 0, 19, 1, 20, MIDDLE, MOVED_BACK);
        Checks.dueField(made(20, 0, 4, "p12;", "aaaaaaaaaa\t12.5678901"), 0, 1, 0, 10, 10, 12,
                POINT, AS_IT_SHOULD);
        // Moved back as far as c.
        Checks.dueField(made(20, 0, 4, "p12;", "aaaaaaaaaa\t1.56789012"), 0, 1, 0, 10, 10, 12,
                POINT, MOVED_BACK);
    }

    private static void leaders() {
        Checks.sentence("The columns from c to its beginning get the leader of the stop, if it has"
                + " one.");
        String signs = ".-_";
        for (int leader = 0; leader < 3; leader++) {
            char sign = signs.charAt(leader);
            TabLines x = made(20, 2, 4, "l10" + sign + ";", "a\tb");
            Checks.dueLines(x, 0, "  a" + row(sign, 7) + "b");
            dueHolds(x, 2, 7, 0, 11);
        }
        String kinds = "lrmp";
        int[] begins = {10, 9, 10, 9};
        for (int kind = LEFT; kind <= POINT; kind++) {
            for (int leader = 0; leader < 3; leader++) {
                char sign = signs.charAt(leader);
                TabLines x = made(20, 0, 4, "" + kinds.charAt(kind) + "10" + sign + ";", "a\tb");
                Checks.dueLines(x, 0, "a" + row(sign, begins[kind] - 1) + "b");
            }
        }
        TabLines x = made(20, 0, 4, "l10;", "a\tb");
        Checks.dueLines(x, 0, "a         b");
        dueHolds(x, 2, 0, 0, 18);
        x = made(20, 0, 4, "l1_;", "\t");
        Checks.dueLines(x, 0, "_");
        dueHolds(x, 0, 1, 0, 19);
        x = made(20, 0, 4, "l20_;", "\t");
        Checks.dueLines(x, 0, row('_', 20));
        dueHolds(x, 0, 20, 0, 0);
        x = made(20, 0, 4, "r10_;", "aaa\tbbbbbb");
        Checks.dueLines(x, 0, "aaa_bbbbbb");
        x = made(20, 0, 4, "r10_;", "aaa\tbbbbbbb");
        dueHolds(x, 10, 0, 0, 10);
        x = made(20, 0, 4, "r10_;", "aaa\tb\tc");
        Checks.dueLines(x, 0, "aaa______b      c");
    }

    private static void furtherWords() {
        Checks.sentence("If there are further words of the field, a new line begins, and they flow"
                + " from there.");
        TabLines x = made(20, 0, 4, "l10;", "a\tbbb ccc dd");
        Checks.due("no further words", x.lines(0), 1);
        x = made(20, 0, 4, "l10;", "a\tbbb ccc dd e");
        Checks.dueLines(x, 0, "a         bbb ccc dd", "    e");
        x = made(20, 0, 4, "l10;", "a\tbbb " + row('c', 17) + " d\te");
        Checks.dueLines(x, 0, "a         bbb", "    " + row('c', 16), "    c d   e");
        Checks.dueField(x, 0, 1, 0, 10, 3, 10, LEFT, AS_IT_SHOULD);
        Checks.dueField(x, 0, 2, 2, 10, 1, 10, LEFT, AS_IT_SHOULD);
        x = made(20, 0, 0, "r20;", "a\tbbbbbbbbb ccccccccc d");
        Checks.dueLines(x, 0, "abbbbbbbbb ccccccccc", "d");
        x = made(20, 0, 0, "r20;", "a\tbbbbbbbbb cccccccccc d");
        Checks.dueLines(x, 0, "a          bbbbbbbbb", "cccccccccc d");
    }

    private static void bars() {
        Checks.sentence("each bar of the style whose position p is less than W puts a \"|\" (code"
                + " 124) into the column p, if it holds a space (also one between two words).");
        TabLines x = made(20, 0, 4, "b1;b19;b20;", "");
        Checks.dueLines(x, 0, " |                 |");
        Checks.due("the code", x.cell(0, 0, 19), 124);
        dueHolds(x, 0, 0, 2, 18);
        x.setNumber(0, 21);
        Checks.dueLines(x, 0, " |                 ||");
        x = made(80, 0, 4, "b79;b80;", "");
        Checks.due("at 79 of 80", x.cell(0, 0, 79), 124);
        dueHolds(x, 0, 0, 1, 79);
        x = made(79, 0, 4, "b78;b79;b80;", "");
        Checks.due("at 78 of 79", x.cell(0, 0, 78), 124);
        dueHolds(x, 0, 0, 1, 78);
        x = made(20, 3, 0, "b2;b3;b4;b5;b6;", "a b");
        Checks.dueLines(x, 0, "  |a|b|");
        x = made(20, 0, 4, "b5;l10.;b9;b11;", "a\tb");
        Checks.dueLines(x, 0, "a.........b|");
        x = made(20, 0, 4, "b5;l10;b9;b11;", "a\tb");
        Checks.dueLines(x, 0, "a    |   |b|");
        Checks.sentence("in each of them");
        x = made(20, 0, 4, "b2;l20;b12;", "a\t\tb\t\t");
        Checks.dueLines(x, 0, "a |         |", "  | b       |", "  |         |");
        dueHolds(x, 2, 0, 6, 52);
        Checks.sentence("What holds nothing else holds a space (code 32).");
        x = made(20, 19, 4, "", "");
        for (int column = 0; column < 20; column++) {
            Checks.due("cell", x.cell(0, 0, column), 32);
        }
    }

    private static void fields() {
        Checks.sentence("0 the line and 1 the column where it begins (for an empty one: c, when it"
                + " is done)");
        TabLines x = made(20, 5, 3, "r10;l15;", "\t\t\t\tx");
        Checks.dueField(x, 0, 0, 0, 5, 0, -9, -9, -9);
        Checks.dueField(x, 0, 1, 0, 10, 0, 10, RIGHT, AS_IT_SHOULD);
        Checks.dueField(x, 0, 2, 0, 15, 0, 15, LEFT, AS_IT_SHOULD);
        Checks.dueField(x, 0, 3, 0, 16, 0, 16, LEFT, AS_IT_SHOULD);
        Checks.dueField(x, 0, 4, 1, 3, 1, -9, -9, -9);
        x = made(20, 0, 3, "l20;", "a\t\tb");
        Checks.dueField(x, 0, 1, 0, 20, 0, 20, LEFT, AS_IT_SHOULD);
        x = made(20, 0, 3, "l20;", "a\t\t");
        Checks.dueField(x, 0, 2, 1, 3, 0, -9, -9, -9);
        Checks.sentence("2 how many columns of this line it fills from there (to the end of its last"
                + " word on this line, the spaces between them included)");
        Checks.dueField(made(20, 2, 4, "", "aa  bbb   c"), 0, 0, 0, 2, 8, -9, -9, -9);
        Checks.dueField(made(20, 2, 4, "", "aa bbb " + row('c', 12)), 0, 0, 0, 2, 6, -9, -9, -9);
        Checks.dueField(made(20, 2, 4, "", row('c', 19)), 0, 0, 0, 2, 18, -9, -9, -9);
        Checks.dueField(made(20, 2, 4, "l4;", "\taa b " + row('c', 13)), 0, 1, 0, 4, 4, 4, 0, 0);
        Checks.dueField(made(20, 2, 4, "", "a " + row('c', 17) + " d"), 0, 0, 0, 2, 1, -9, -9, -9);
        Checks.sentence("3 the position and 4 the kind of its stop (NONE for both without a stop, or"
                + " if a new line began as if there was none), 5 0 if it begins as it should, 1 if"
                + " it passes its stop, 2 if it is moved back (NONE without a stop)");
        x = made(20, 0, 4, "m6;r12;p18;", "a\tbb\tcccccc\t1.55\tdd ee");
        Checks.dueField(x, 0, 0, 0, 0, 1, -9, -9, -9);
        Checks.dueField(x, 0, 1, 0, 5, 2, 6, MIDDLE, AS_IT_SHOULD);
        Checks.dueField(x, 0, 2, 0, 7, 6, 12, RIGHT, PASSES);
        Checks.dueField(x, 0, 3, 0, 16, 4, 18, POINT, MOVED_BACK);
        Checks.dueField(x, 0, 4, 1, 4, 5, -9, -9, -9);
        x = made(20, 0, 4, "r18;", "aaaa\t" + row('b', 17));
        Checks.dueField(x, 0, 1, 1, 4, 16, -9, -9, -9);
    }

    /** An object that showed longer lines ahead shows no remains of them. */
    private static void noRemains() {
        Checks.sentence("What holds nothing else holds a space (code 32).");
        TabLines x = made(20, 0, 4, "r10_;b12;", "aaa\tbb\tccc ddddddddd e" + row('\t', 50));
        // Line 1 ends at 15; one tab comes to 16, and each three of the others fill a line.
        Checks.due("many lines", x.lines(0), 19);
        Checks.due("bars on all but line 1", x.holds(0, 2), 18);
        x.removeStop(0, 1);
        Checks.write(x, 0, "\t");
        Checks.dueLines(x, 0, "__________");
        Checks.dueField(x, 0, 0, 0, 0, 0, -9, -9, -9);
        Checks.dueField(x, 0, 1, 0, 10, 0, 10, RIGHT, AS_IT_SHOULD);
        Checks.due("field 2", x.field(0, 2, 0), Checks.NONE);
        Checks.write(x, 0, "");
        Checks.dueLines(x, 0, "");
        dueHolds(x, 0, 0, 0, 20);
        Checks.due("field 1", x.field(0, 1, 0), Checks.NONE);
        Checks.due("line 1", x.cell(0, 1, 0), Checks.NONE);
    }

    private static void otherWidths() {
        Checks.sentence("Returns the number of lines that a paragraph would have with another W.");
        TabLines x = made(33, 0, 4, "", "aaaaaaaaa bbbbbbbbb " + row('c', 60));
        Checks.due("20", x.linesWith(0, 20), 5);
        Checks.due("79", x.linesWith(0, 79), 2);
        Checks.due("80", x.linesWith(0, 80), 1);
        Checks.due("as it is", x.linesWith(0, 33), x.lines(0));
        Checks.due("W", x.count(0), 33);
        x = made(33, 0, 4, "", row('a', 80));
        Checks.due("79", x.linesWith(0, 79), 2);
        Checks.due("80", x.linesWith(0, 80), 1);
        x = made(33, 0, 4, "l60;", "a\tb");
        Checks.due("no stop", x.linesWith(0, 59), 2);
        Checks.due("no room at the stop", x.linesWith(0, 60), 2);
        Checks.due("room at the stop", x.linesWith(0, 61), 1);
        Checks.sentence("Finds the least W with which a paragraph would have at most so many"
                + " lines.");
        Checks.due("one line", x.leastColumns(0, 1), 61);
        Checks.due("two lines", x.leastColumns(0, 2), 20);
        Checks.due("least W", made(80, 0, 4, "", row('a', 20)).leastColumns(0, 1), 20);
        Checks.due("one more", made(80, 0, 4, "", row('a', 21)).leastColumns(0, 1), 21);
        Checks.due("greatest W", made(20, 0, 4, "", row('a', 80)).leastColumns(0, 1), 80);
        Checks.due("greatest W", made(20, 19, 4, "", row('a', 61)).leastColumns(0, 1), 80);
        Checks.due("none", made(20, 19, 4, "", row('a', 62)).leastColumns(0, 1), Checks.NONE);
        x = made(20, 19, 19, "", row('a', 80));
        Checks.due("80 lines", x.leastColumns(0, 80), 20);
        Checks.due("79 lines", x.leastColumns(0, 79), 21);
        Checks.due("99 lines", x.leastColumns(0, 99), 20);
    }

    private static void whatColumnsHold() {
        Checks.sentence("0 characters of its words, 1 leaders, 2 bars, 3 spaces (also those between"
                + " words)");
        dueHolds(made(20, 0, 4, "", ""), 0, 0, 0, 20);
        dueHolds(made(80, 0, 4, "", ""), 0, 0, 0, 80);
        dueHolds(made(80, 0, 4, "", row('a', 80)), 80, 0, 0, 0);
        dueHolds(made(20, 0, 0, "b1;b19;", row('a', 80)), 80, 0, 0, 0);
        dueHolds(made(20, 0, 4, "b1;b19;", row('a', 80)), 80, 0, 5, 15);
        dueHolds(made(20, 0, 4, "", "a b  c"), 3, 0, 0, 17);
        dueHolds(made(20, 0, 4, "b1;", "a b  c"), 3, 0, 1, 16);
        dueHolds(made(20, 0, 4, "l20-;", "\t\t"), 0, 20, 0, 20);
        dueHolds(made(20, 0, 0, "l19-;", "\ta"), 1, 19, 0, 0);
        dueHolds(made(20, 0, 0, "b1;b2;b3;b4;b5;b6;b7;b8;", ""), 0, 0, 8, 12);
        dueHolds(made(20, 0, 4, "", ".,.\t..."), 6, 0, 0, 14);
    }

    private static void allLines() {
        Checks.sentence("2 the number of paragraphs, 3 of all lines, 4 the length of the text, 5 the"
                + " number of states that are saved for undo()");
        TabLines x = made(20, 0, 4, "", row('a', 80));
        Checks.due("lines of one", x.count(3), 5);
        for (int paragraph = 1; paragraph < 8; paragraph++) {
            x.addParagraph(paragraph % 4);
            Checks.due("paragraphs", x.count(2), paragraph + 1);
            Checks.due("lines of all", x.count(3), 5 + paragraph);
        }
        Checks.write(x, 7, row('b', 21));
        Checks.due("lines of all", x.count(3), 13);
        x.removeParagraph(0);
        Checks.due("lines of all", x.count(3), 8);
        Checks.due("no lines", new TabLines().count(3), 0);
    }

    public static void main(String[] args) {
        emptyOnes();
        fieldZero();
        indents();
        flow();
        parted();
        whichStop();
        noStop();
        run();
        beginnings();
        halves();
        behindTheRun();
        passing();
        leaders();
        furtherWords();
        bars();
        fields();
        whatColumnsHold();
        noRemains();
        otherWidths();
        allLines();
        Checks.end();
    }
}
