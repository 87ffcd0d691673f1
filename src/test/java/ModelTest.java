import java.util.ArrayList;
import java.util.Arrays;
import java.util.List;
import java.util.Random;
import java.util.TreeMap;

/**
 * Compares TabLines with a second, plainer program for the same document, over many runs of calls
 * that are always the same (the seeds are fixed).
 */
public final class ModelTest {
    private static final int RUNS = 1500;
    private static final int CALLS = 512;

    /** The document once more, with grids, texts and maps, and without regard to cost. */
    private static final class Model {
        static final class Paragraph {
            int style;
            String text = "";
        }

        static final class State {
            int w = 40;
            int d = 8;
            int[][] indents = {{0, 4}, {0, 4}, {0, 4}, {0, 4}};
            List<TreeMap<Integer, int[]>> stops = new ArrayList<>();
            List<Paragraph> paragraphs = new ArrayList<>();

            State copy() {
                State copy = new State();
                copy.w = w;
                copy.d = d;
                for (int i = 0; i < 4; i++) {
                    copy.indents[i] = indents[i].clone();
                    copy.stops.add(new TreeMap<>(stops.get(i)));
                }
                for (Paragraph p : paragraphs) {
                    Paragraph other = new Paragraph();
                    other.style = p.style;
                    other.text = p.text;
                    copy.paragraphs.add(other);
                }
                return copy;
            }
        }

        /** The lines of one paragraph, as grids of signs and of what put them there. */
        static final class Grid {
            final State state;
            final int style;
            final int w;
            List<char[]> signs = new ArrayList<>();
            List<char[]> makers = new ArrayList<>();
            List<int[]> fields = new ArrayList<>();
            int c;
            boolean atBeginning;

            Grid(State state, Paragraph p, int w) {
                this.state = state;
                this.style = p.style;
                this.w = w;
                newLine();
                c = state.indents[style][0];
                String[] parts = p.text.split("\t", -1);
                for (int f = 0; f < parts.length; f++) {
                    List<String> words = new ArrayList<>();
                    for (String word : parts[f].split(" ")) {
                        if (!word.isEmpty()) {
                            words.add(word);
                        }
                    }
                    if (f == 0) {
                        plainField(words);
                    } else {
                        tabbedField(words);
                    }
                }
                for (int line = 0; line < signs.size(); line++) {
                    for (int p2 : state.stops.get(style).keySet()) {
                        if (p2 < w && state.stops.get(style).get(p2)[0] == 4
                                && makers.get(line)[p2] == 's') {
                            signs.get(line)[p2] = '|';
                            makers.get(line)[p2] = 'b';
                        }
                    }
                }
            }

            void newLine() {
                char[] row = new char[w];
                Arrays.fill(row, ' ');
                signs.add(row);
                char[] made = new char[w];
                Arrays.fill(made, 's');
                makers.add(made);
                c = state.indents[style][1];
            }

            void put(char sign, char maker) {
                signs.get(signs.size() - 1)[c] = sign;
                makers.get(signs.size() - 1)[c] = maker;
                c++;
            }

            /** Lets words flow, and answers how many columns of the first line they fill. */
            int flow(List<String> words) {
                int firstLine = signs.size();
                int from = c;
                int filled = 0;
                for (int i = 0; i < words.size(); i++) {
                    String word = words.get(i);
                    boolean beginsLine = i == 0;
                    if (i > 0) {
                        if (c + 1 + word.length() <= w) {
                            c++;
                        } else {
                            newLine();
                            beginsLine = true;
                        }
                    }
                    for (int k = 0; k < word.length(); k++) {
                        if (c == w) {
                            if (!beginsLine) {
                                throw new IllegalStateException("parted in a line");
                            }
                            newLine();
                        }
                        put(word.charAt(k), 'w');
                        if (signs.size() == firstLine) {
                            filled = c - from;
                        }
                    }
                }
                return filled;
            }

            void plainField(List<String> words) {
                int line = signs.size() - 1;
                int from = c;
                int filled = flow(words);
                fields.add(new int[] {line, from, filled, -9, -9, -9});
            }

            void tabbedField(List<String> words) {
                int p = 0;
                int kind = 0;
                int leader = 0;
                TreeMap<Integer, int[]> own = state.stops.get(style);
                int greatest = 0;
                for (int q : own.keySet()) {
                    if (own.get(q)[0] != 4) {
                        greatest = q;
                    }
                }
                for (int q = c + 1; q <= w && p == 0; q++) {
                    if (own.containsKey(q) && own.get(q)[0] != 4) {
                        p = q;
                        kind = own.get(q)[0];
                        leader = own.get(q)[1];
                    } else if (q > greatest && q % state.d == 0) {
                        p = q;
                    }
                }
                if (p == 0) {
                    newLine();
                    plainField(words);
                    return;
                }
                int room = kind == 0 ? w - p : w - c;
                String run = "";
                int taken = 0;
                for (int many = 1; many <= words.size(); many++) {
                    String longer = String.join(" ", words.subList(0, many));
                    if (longer.length() <= room) {
                        run = longer;
                        taken = many;
                    }
                }
                if (!words.isEmpty() && taken == 0) {
                    newLine();
                    plainField(words);
                    return;
                }
                int n = run.length();
                int k = run.indexOf('.') < 0 ? n : run.indexOf('.');
                int[] ahead = {0, n, n / 2, k};
                int begin = p - ahead[kind];
                int manner = 0;
                if (begin < c) {
                    begin = c;
                    manner = 1;
                }
                if (begin + n > w) {
                    begin = w - n;
                    manner = 2;
                }
                while (c < begin) {
                    if (leader == 0) {
                        c++;
                    } else {
                        put(" .-_".charAt(leader), 'l');
                    }
                }
                fields.add(new int[] {signs.size() - 1, begin, n, p, kind, manner});
                flow(words.subList(0, taken));
                if (taken < words.size()) {
                    newLine();
                    flow(words.subList(taken, words.size()));
                }
            }
        }

        State state = new State();
        List<State> saved = new ArrayList<>();
        String text = "";

        Model() {
            for (int i = 0; i < 4; i++) {
                state.stops.add(new TreeMap<>());
            }
        }

        void save() {
            saved.add(state.copy());
            if (saved.size() > 6) {
                saved.remove(0);
            }
        }

        boolean paragraph(int n) {
            return n >= 0 && n < state.paragraphs.size();
        }

        static boolean in(int value, int least, int most) {
            return least <= value && value <= most;
        }

        Grid grid(int n, int w) {
            return new Grid(state, state.paragraphs.get(n), w);
        }

        int setNumber(int what, int value) {
            if (!in(what, 0, 1) || !(what == 0 ? in(value, 20, 80) : in(value, 2, 20))) {
                return -1;
            }
            save();
            int before = what == 0 ? state.w : state.d;
            if (what == 0) {
                state.w = value;
            } else {
                state.d = value;
            }
            return before;
        }

        int setIndent(int style, int which, int value) {
            if (!in(style, 0, 3) || !in(which, 0, 1) || !in(value, 0, 19)) {
                return -1;
            }
            save();
            int before = state.indents[style][which];
            state.indents[style][which] = value;
            return before;
        }

        int setStop(int style, int position, int kind, int leader) {
            if (!in(style, 0, 3) || !in(position, 1, 80) || !in(kind, 0, 4) || !in(leader, 0, 3)
                    || kind == 4 && leader != 0) {
                return -1;
            }
            TreeMap<Integer, int[]> stops = state.stops.get(style);
            if (stops.size() == 8 && !stops.containsKey(position)) {
                return -3;
            }
            save();
            stops.put(position, new int[] {kind, leader});
            return stops.headMap(position).size();
        }

        int removeStop(int style, int stop) {
            if (!in(style, 0, 3) || !in(stop, 0, state.stops.get(style).size() - 1)) {
                return -1;
            }
            save();
            TreeMap<Integer, int[]> stops = state.stops.get(style);
            stops.remove(new ArrayList<>(stops.keySet()).get(stop));
            return stops.size();
        }

        int appendCharacter(int character) {
            if (!in(character, 0, 255)) {
                return -1;
            }
            if (text.length() == 100) {
                return -3;
            }
            text += (char) character;
            return text.length();
        }

        int clearText() {
            int before = text.length();
            text = "";
            return before;
        }

        int loadStops(int style) {
            if (!in(style, 0, 3)) {
                return -1;
            }
            TreeMap<Integer, int[]> stops = new TreeMap<>();
            int error = readStops(stops);
            if (error >= 0) {
                return -1000 - error;
            }
            save();
            state.stops.set(style, stops);
            text = "";
            return stops.size();
        }

        /** A machine of states over the characters: 0 item, 1 position, 2 digit, 3 leader, 4 end. */
        int readStops(TreeMap<Integer, int[]> stops) {
            int step = 0;
            int kind = 0;
            int leader = 0;
            int position = 0;
            int firstDigit = 0;
            for (int i = 0; i <= text.length(); i++) {
                char sign = i < text.length() ? text.charAt(i) : 0;
                if (step == 2) {
                    boolean goesOn = sign >= '0' && sign <= '9' && i == firstDigit + 1;
                    if (goesOn) {
                        position = position * 10 + sign - '0';
                    }
                    if (!goesOn || i == firstDigit + 1) {
                        if (position > 80 || stops.containsKey(position)) {
                            return firstDigit;
                        }
                        step = 3;
                    }
                    if (goesOn) {
                        continue;
                    }
                }
                if (i == text.length()) {
                    return step == 0 ? -1 : i;
                }
                if (sign == ' ') {
                    continue;
                }
                if (step == 0) {
                    kind = "lrmpb".indexOf(sign);
                    if (kind < 0 || stops.size() == 8) {
                        return i;
                    }
                    step = 1;
                } else if (step == 1) {
                    if (sign < '1' || sign > '9') {
                        return i;
                    }
                    firstDigit = i;
                    position = sign - '0';
                    leader = 0;
                    step = 2;
                } else if (step == 3 && kind != 4 && sign != 0 && ".-_".indexOf(sign) >= 0) {
                    leader = 1 + ".-_".indexOf(sign);
                    step = 4;
                } else if (sign == ';') {
                    stops.put(position, new int[] {kind, leader});
                    step = 0;
                } else {
                    return i;
                }
            }
            throw new IllegalStateException("not reached");
        }

        int addParagraph(int style) {
            if (!in(style, 0, 3)) {
                return -1;
            }
            if (state.paragraphs.size() == 8) {
                return -3;
            }
            save();
            Paragraph added = new Paragraph();
            added.style = style;
            state.paragraphs.add(added);
            return state.paragraphs.size() - 1;
        }

        int removeParagraph(int n) {
            if (!paragraph(n)) {
                return -1;
            }
            save();
            state.paragraphs.remove(n);
            return state.paragraphs.size();
        }

        int setStyle(int n, int style) {
            if (!paragraph(n) || !in(style, 0, 3)) {
                return -1;
            }
            save();
            int before = state.paragraphs.get(n).style;
            state.paragraphs.get(n).style = style;
            return before;
        }

        int takeText(int n) {
            if (!paragraph(n)) {
                return -1;
            }
            for (int i = 0; i < text.length(); i++) {
                if (!text.substring(i, i + 1).matches("[a-z0-9., \t]")) {
                    return -2000 - i;
                }
            }
            if (text.length() > 80) {
                return -3;
            }
            save();
            state.paragraphs.get(n).text = text;
            text = "";
            return state.paragraphs.get(n).text.length();
        }

        int add(int n, String more) {
            if (state.paragraphs.get(n).text.length() + more.length() > 80) {
                return -3;
            }
            save();
            state.paragraphs.get(n).text += more;
            return state.paragraphs.get(n).text.length();
        }

        int addWord(int n, int tab, int letter, int length) {
            if (!paragraph(n) || !in(tab, 0, 1) || !in(letter, 0, 25) || !in(length, 1, 30)) {
                return -1;
            }
            String word = String.valueOf((char) ('a' + letter)).repeat(length);
            return add(n, (tab == 0 ? " " : "\t") + word);
        }

        int addAmount(int n, int hundredths) {
            if (!paragraph(n) || !in(hundredths, 0, 9999999)) {
                return -1;
            }
            return add(n, String.format("\t%d.%02d", hundredths / 100, hundredths % 100));
        }

        int count(int what) {
            int all = 0;
            for (Paragraph p : state.paragraphs) {
                all += new Grid(state, p, state.w).signs.size();
            }
            int[] answers =
                    {state.w, state.d, state.paragraphs.size(), all, text.length(), saved.size()};
            return in(what, 0, 5) ? answers[what] : -1;
        }

        int style(int style, int what) {
            if (!in(style, 0, 3) || !in(what, 0, 3)) {
                return -1;
            }
            if (what < 2) {
                return state.indents[style][what];
            }
            TreeMap<Integer, int[]> stops = state.stops.get(style);
            if (what == 2) {
                return stops.size();
            }
            int p = 1;
            for (int q : stops.keySet()) {
                if (stops.get(q)[0] != 4) {
                    p = q + 1;
                }
            }
            while (p % state.d != 0) {
                p++;
            }
            return p;
        }

        int stop(int style, int stop, int what) {
            if (!in(style, 0, 3) || stop < 0 || !in(what, 0, 2)) {
                return -1;
            }
            int number = 0;
            for (int p : state.stops.get(style).keySet()) {
                if (number == stop) {
                    return what == 0 ? p : state.stops.get(style).get(p)[what - 1];
                }
                number++;
            }
            return -9;
        }

        int character(int n, int index) {
            if (!paragraph(n) || index < 0) {
                return -1;
            }
            String of = state.paragraphs.get(n).text;
            return index < of.length() ? of.charAt(index) : -9;
        }

        int lines(int n) {
            return paragraph(n) ? grid(n, state.w).signs.size() : -1;
        }

        int cell(int n, int line, int column) {
            if (!paragraph(n) || line < 0 || !in(column, 0, state.w - 1)) {
                return -1;
            }
            Grid grid = grid(n, state.w);
            return line < grid.signs.size() ? grid.signs.get(line)[column] : -9;
        }

        int field(int n, int field, int what) {
            if (!paragraph(n) || field < 0 || !in(what, 0, 5)) {
                return -1;
            }
            Grid grid = grid(n, state.w);
            return field < grid.fields.size() ? grid.fields.get(field)[what] : -9;
        }

        int holds(int n, int what) {
            if (!paragraph(n) || !in(what, 0, 3)) {
                return -1;
            }
            int sum = 0;
            for (char[] made : grid(n, state.w).makers) {
                for (char maker : made) {
                    sum += maker == "wlbs".charAt(what) ? 1 : 0;
                }
            }
            return sum;
        }

        int linesWith(int n, int columns) {
            return paragraph(n) && in(columns, 20, 80) ? grid(n, columns).signs.size() : -1;
        }

        int leastColumns(int n, int lines) {
            if (!paragraph(n) || !in(lines, 1, 99)) {
                return -1;
            }
            for (int w = 20; w <= 80; w++) {
                if (grid(n, w).signs.size() <= lines) {
                    return w;
                }
            }
            return -9;
        }

        int undo() {
            if (saved.isEmpty()) {
                return -2;
            }
            state = saved.remove(saved.size() - 1);
            return saved.size();
        }
    }

    private static int wrong = 0;
    private static int compared = 0;
    private static final StringBuilder told = new StringBuilder();

    private static void same(String call, int got, int due) {
        compared++;
        if (told.length() < 4000) {
            told.append("  ").append(call).append(" -> ").append(due).append('\n');
        }
        if (got != due && wrong++ < 3) {
            System.out.println(told + "the last call answered " + got + ", due is " + due);
        }
    }

    private final Random random;
    private final TabLines x = new TabLines();
    private final Model y = new Model();
    private int calls = 0;

    private ModelTest(int seed) {
        random = new Random(seed);
    }

    /** Mostly a number of the range, at times one that is just or far outside. */
    private int some(int least, int most) {
        switch (random.nextInt(24)) {
            case 0:
                return least - 1;
            case 1:
                return most + 1;
            case 2:
                return least;
            case 3:
                return most;
            case 4:
                return random.nextInt(8) == 0 ? random.nextInt() : least;
            default:
                return least + random.nextInt(most - least + 1);
        }
    }

    private void append(String text) {
        for (int i = 0; i < text.length() && calls < CALLS; i++) {
            char sign = text.charAt(i);
            calls++;
            same("appendCharacter(" + (int) sign + ")", x.appendCharacter(sign),
                    y.appendCharacter(sign));
        }
    }

    private String one(String signs) {
        return signs.substring(random.nextInt(signs.length())).substring(0, 1);
    }

    private String spaces() {
        return random.nextInt(8) == 0 ? " " : "";
    }

    private String stopsText() {
        StringBuilder text = new StringBuilder();
        int items = random.nextInt(10) == 0 ? 9 : random.nextInt(5);
        for (int i = 0; i < items; i++) {
            int position = 1 + random.nextInt(random.nextInt(6) == 0 ? 99 : 80);
            text.append(spaces()).append(one("lrmpb")).append(spaces()).append(position);
            text.append(spaces());
            if (random.nextInt(4) == 0) {
                text.append(one(".-_")).append(spaces());
            }
            text.append(";").append(spaces());
        }
        if (text.length() > 0 && random.nextInt(3) == 0) {
            int at = random.nextInt(text.length());
            switch (random.nextInt(3)) {
                case 0:
                    text.setLength(at);
                    break;
                case 1:
                    text.deleteCharAt(at);
                    break;
                default:
                    text.insert(at, one("lrmpb0123456789.-_; x\t"));
            }
        }
        return text.toString();
    }

    private String paragraphText() {
        StringBuilder text = new StringBuilder();
        int length = random.nextInt(6) == 0 ? random.nextInt(101) : random.nextInt(60);
        int tabs = 1 + random.nextInt(12);
        while (text.length() < length) {
            if (random.nextInt(tabs) == 0) {
                text.append('\t');
            } else if (random.nextInt(3) == 0) {
                text.append(one("  ..,,09"));
            } else {
                text.append(one("abcxyz").repeat(1 + random.nextInt(7)));
            }
        }
        if (length > 0 && random.nextInt(12) == 0) {
            text.setCharAt(random.nextInt(text.length()), one("A;_-\n\u00e9{`/:").charAt(0));
        }
        return text.toString();
    }

    private void change(int n) {
        int a = some(0, 3);
        int b = some(0, 1);
        int c = some(0, 3);
        switch (random.nextInt(12)) {
            case 0:
                int value = b == 0 ? some(20, random.nextInt(2) == 0 ? 80 : 30) : some(2, 20);
                same("setNumber(" + b + ", " + value + ")", x.setNumber(b, value),
                        y.setNumber(b, value));
                break;
            case 1:
                int indent = some(0, 19);
                same("setIndent(" + a + ", " + b + ", " + indent + ")", x.setIndent(a, b, indent),
                        y.setIndent(a, b, indent));
                break;
            case 2:
            case 3:
                int p = some(1, random.nextInt(2) == 0 ? 80 : 30);
                int kind = some(0, 4);
                int leader = kind == 4 && random.nextInt(8) > 0 ? 0 : c;
                same("setStop(" + a + ", " + p + ", " + kind + ", " + leader + ")",
                        x.setStop(a, p, kind, leader), y.setStop(a, p, kind, leader));
                break;
            case 4:
                same("removeStop(" + a + ", " + c + ")", x.removeStop(a, c), y.removeStop(a, c));
                break;
            case 5:
                append(stopsText());
                same("loadStops(" + a + ")", x.loadStops(a), y.loadStops(a));
                same("clearText()", x.clearText(), y.clearText());
                break;
            case 6:
                same("addParagraph(" + a + ")", x.addParagraph(a), y.addParagraph(a));
                break;
            case 7:
                if (random.nextInt(3) == 0) {
                    same("removeParagraph(" + n + ")", x.removeParagraph(n), y.removeParagraph(n));
                } else {
                    same("setStyle(" + n + ", " + a + ")", x.setStyle(n, a), y.setStyle(n, a));
                }
                break;
            case 8:
                append(paragraphText());
                same("takeText(" + n + ")", x.takeText(n), y.takeText(n));
                if (random.nextInt(4) > 0) {
                    same("clearText()", x.clearText(), y.clearText());
                }
                break;
            case 9:
                int letter = some(0, 25);
                int length = some(1, random.nextInt(3) == 0 ? 30 : 9);
                same("addWord(" + n + ", " + b + ", " + letter + ", " + length + ")",
                        x.addWord(n, b, letter, length), y.addWord(n, b, letter, length));
                break;
            case 10:
                int amount = some(0, random.nextInt(2) == 0 ? 9999999 : 2000);
                same("addAmount(" + n + ", " + amount + ")", x.addAmount(n, amount),
                        y.addAmount(n, amount));
                break;
            default:
                same("undo()", x.undo(), y.undo());
        }
    }

    private void look(int n) {
        int a = some(0, 3);
        int what = some(0, 5);
        int few = some(0, 7);
        switch (random.nextInt(12)) {
            case 0:
                same("count(" + what + ")", x.count(what), y.count(what));
                break;
            case 1:
                same("style(" + a + ", " + what + ")", x.style(a, what), y.style(a, what));
                break;
            case 2:
                int of = some(0, 2);
                same("stop(" + a + ", " + few + ", " + of + ")", x.stop(a, few, of),
                        y.stop(a, few, of));
                break;
            case 3:
                int index = some(0, 79);
                same("character(" + n + ", " + index + ")", x.character(n, index),
                        y.character(n, index));
                break;
            case 4:
            case 5:
                int line = some(0, 3);
                int column = some(0, y.state.w - 1);
                same("cell(" + n + ", " + line + ", " + column + ")", x.cell(n, line, column),
                        y.cell(n, line, column));
                break;
            case 6:
            case 7:
                same("field(" + n + ", " + few + ", " + what + ")", x.field(n, few, what),
                        y.field(n, few, what));
                break;
            case 8:
                same("holds(" + n + ", " + a + ")", x.holds(n, a), y.holds(n, a));
                break;
            case 9:
                int columns = some(20, 80);
                same("linesWith(" + n + ", " + columns + ")", x.linesWith(n, columns),
                        y.linesWith(n, columns));
                break;
            case 10:
                int lines = random.nextInt(4) == 0 ? some(1, 99) : some(1, 5);
                same("leastColumns(" + n + ", " + lines + ")", x.leastColumns(n, lines),
                        y.leastColumns(n, lines));
                break;
            default:
                same("lines(" + n + ")", x.lines(n), y.lines(n));
        }
    }

    /** All of a paragraph: its lines, cell by cell, and its fields. */
    private void lookAtAll(int n) {
        int lines = y.lines(n);
        for (int line = 0; line <= lines; line++) {
            for (int column = 0; column <= y.state.w; column++) {
                same("cell(" + n + ", " + line + ", " + column + ")", x.cell(n, line, column),
                        y.cell(n, line, column));
            }
        }
        for (int field = 0; field < 82; field++) {
            for (int what = 0; what < 6; what++) {
                same("field(" + n + ", " + field + ", " + what + ")", x.field(n, field, what),
                        y.field(n, field, what));
            }
        }
        for (int what = 0; what < 4; what++) {
            same("holds(" + n + ", " + what + ")", x.holds(n, what), y.holds(n, what));
        }
    }

    private void run() {
        same("addParagraph(0)", x.addParagraph(0), y.addParagraph(0));
        for (calls = 1; calls < CALLS; calls++) {
            int last = Math.max(0, y.state.paragraphs.size() - 1);
            int n = random.nextInt(10) == 0 ? some(0, 7) : some(0, last);
            if (random.nextInt(3) == 0) {
                change(n);
            } else {
                look(n);
            }
        }
        // None of these calls changes anything; the document leaves answers behind the 512th call
        // free, but here they are to stay as they are.
        for (int n = 0; n < y.state.paragraphs.size(); n++) {
            lookAtAll(n);
        }
    }

    public static void main(String[] args) {
        int runs = args.length > 0 ? Integer.parseInt(args[0]) : RUNS;
        for (int seed = 0; seed < runs && wrong == 0; seed++) {
            told.setLength(0);
            told.append("seed ").append(seed).append('\n');
            new ModelTest(seed).run();
        }
        System.out.println(wrong == 0 ? compared + " answers are as in the model"
                : "some answers are not as in the model");
        if (wrong != 0) {
            System.exit(1);
        }
    }
}
