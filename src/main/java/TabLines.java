/**
 * Paragraphs with tab stops: styles with indents and stops, leaders, bars, fields that go on over
 * hanging lines, and stops that are read from a text. ../shared/DOC.md tells what each call does.
 *
 * <p>All rows are made by the constructor and used again; no call makes an object.
 */
public final class TabLines {
    public static final int INVALID_ARGUMENT = -1;
    public static final int ILLEGAL_STATE = -2;
    public static final int CAPACITY_EXCEEDED = -3;
    public static final int NONE = -9;

    private static final int LEAST_COLUMNS = 20;
    private static final int MOST_COLUMNS = 80;
    private static final int LEAST_DISTANCE = 2;
    private static final int MOST_DISTANCE = 20;
    private static final int STYLES = 4;
    private static final int MOST_INDENT = 19;
    private static final int MOST_STOPS = 8;
    private static final int MOST_POSITION = 80;
    private static final int MOST_PARAGRAPHS = 8;
    private static final int MOST_CHARACTERS = 80;
    // A text of tabs alone has one field more than it has characters.
    private static final int MOST_FIELDS = MOST_CHARACTERS + 1;
    private static final int MOST_TEXT = 100;
    private static final int MOST_SAVED = 6;
    private static final int MOST_LINES_ASKED = 99;
    private static final int MOST_LETTERS = 30;
    private static final int MOST_HUNDREDTHS = 9999999;
    private static final int GREATEST_WHOLE_UNIT = 10000;
    private static final int STOPS_ERROR = -1000;
    private static final int TEXT_ERROR = -2000;

    private static final int LEFT = 0;
    private static final int RIGHT = 1;
    private static final int MIDDLE = 2;
    private static final int POINT = 3;
    private static final int BAR = 4;
    private static final int LEADERS = 4;

    private static final int AS_IT_SHOULD = 0;
    private static final int PASSES = 1;
    private static final int MOVED_BACK = 2;

    // The properties of a field, with the numbers that field() has for them.
    private static final int FIELD_LINE = 0;
    private static final int FIELD_COLUMN = 1;
    private static final int FIELD_FILLED = 2;
    private static final int FIELD_POSITION = 3;
    private static final int FIELD_KIND = 4;
    private static final int FIELD_MANNER = 5;
    private static final int FIELD_PROPERTIES = 6;

    private static final int NOTHING = -1;
    private static final int TAB = 9;

    private final State state = new State();
    private final State[] saved = new State[MOST_SAVED];
    private int savedCount;
    private final int[] text = new int[MOST_TEXT];
    private int textLength;
    private final StopReader reader = new StopReader();
    private final Layout layout = new Layout();

    public TabLines() {
        for (int i = 0; i < MOST_SAVED; i++) {
            saved[i] = new State();
        }
    }

    // ---- styles

    public int setNumber(int what, int value) {
        if (what == 0 && isWithin(value, LEAST_COLUMNS, MOST_COLUMNS)) {
            saveState();
            int previous = state.columns;
            state.columns = value;
            return previous;
        }
        if (what == 1 && isWithin(value, LEAST_DISTANCE, MOST_DISTANCE)) {
            saveState();
            int previous = state.distance;
            state.distance = value;
            return previous;
        }
        return INVALID_ARGUMENT;
    }

    public int setIndent(int style, int which, int value) {
        if (!isStyle(style) || !isWithin(which, 0, 1) || !isWithin(value, 0, MOST_INDENT)) {
            return INVALID_ARGUMENT;
        }
        saveState();
        Style changed = state.styles[style];
        int previous;
        if (which == 0) {
            previous = changed.first;
            changed.first = value;
        } else {
            previous = changed.hanging;
            changed.hanging = value;
        }
        return previous;
    }

    public int setStop(int style, int position, int kind, int leader) {
        if (!isStyle(style) || !isWithin(position, 1, MOST_POSITION) || !isWithin(kind, LEFT, BAR)
                || !isWithin(leader, 0, kind == BAR ? 0 : LEADERS - 1)) {
            return INVALID_ARGUMENT;
        }
        Style changed = state.styles[style];
        if (!changed.hasStop(position) && changed.stopsBefore(MOST_POSITION + 1) >= MOST_STOPS) {
            return CAPACITY_EXCEEDED;
        }
        saveState();
        changed.putStop(position, kind, leader);
        return changed.stopsBefore(position);
    }

    public int removeStop(int style, int stop) {
        if (!isStyle(style)) {
            return INVALID_ARGUMENT;
        }
        Style changed = state.styles[style];
        int position = changed.positionOf(stop);
        if (position == NONE) {
            return INVALID_ARGUMENT;
        }
        saveState();
        changed.dropStop(position);
        return changed.stopsBefore(MOST_POSITION + 1);
    }

    public int appendCharacter(int character) {
        if (!isWithin(character, 0, 255)) {
            return INVALID_ARGUMENT;
        }
        if (textLength >= MOST_TEXT) {
            return CAPACITY_EXCEEDED;
        }
        text[textLength] = character;
        textLength++;
        return textLength;
    }

    public int clearText() {
        int previous = textLength;
        textLength = 0;
        return previous;
    }

    public int loadStops(int style) {
        if (!isStyle(style)) {
            return INVALID_ARGUMENT;
        }
        int error = reader.readStops(text, textLength);
        if (error != NOTHING) {
            return STOPS_ERROR - error;
        }
        saveState();
        textLength = 0;
        Style changed = state.styles[style];
        changed.takeStopsOf(reader.read);
        return changed.stopsBefore(MOST_POSITION + 1);
    }

    // ---- paragraphs

    public int addParagraph(int style) {
        if (!isStyle(style)) {
            return INVALID_ARGUMENT;
        }
        if (state.paragraphCount >= MOST_PARAGRAPHS) {
            return CAPACITY_EXCEEDED;
        }
        saveState();
        int added = state.paragraphCount;
        state.paragraphs[added].style = style;
        state.paragraphs[added].length = 0;
        state.paragraphCount++;
        return added;
    }

    public int removeParagraph(int paragraph) {
        if (!isParagraph(paragraph)) {
            return INVALID_ARGUMENT;
        }
        saveState();
        // The object of the removed one goes behind the others, and is used again.
        Paragraph removed = state.paragraphs[paragraph];
        state.paragraphCount--;
        for (int i = paragraph; i < state.paragraphCount; i++) {
            state.paragraphs[i] = state.paragraphs[i + 1];
        }
        state.paragraphs[state.paragraphCount] = removed;
        return state.paragraphCount;
    }

    public int setStyle(int paragraph, int style) {
        if (!isParagraph(paragraph) || !isStyle(style)) {
            return INVALID_ARGUMENT;
        }
        saveState();
        int previous = state.paragraphs[paragraph].style;
        state.paragraphs[paragraph].style = style;
        return previous;
    }

    public int takeText(int paragraph) {
        if (!isParagraph(paragraph)) {
            return INVALID_ARGUMENT;
        }
        for (int i = 0; i < textLength; i++) {
            if (!isParagraphCharacter(text[i])) {
                return TEXT_ERROR - i;
            }
        }
        if (textLength > MOST_CHARACTERS) {
            return CAPACITY_EXCEEDED;
        }
        saveState();
        Paragraph changed = state.paragraphs[paragraph];
        changed.length = 0;
        for (int i = 0; i < textLength; i++) {
            changed.append(text[i]);
        }
        textLength = 0;
        return changed.length;
    }

    public int addWord(int paragraph, int tab, int letter, int length) {
        if (!isParagraph(paragraph) || !isWithin(tab, 0, 1) || !isWithin(letter, 0, 25)
                || !isWithin(length, 1, MOST_LETTERS)) {
            return INVALID_ARGUMENT;
        }
        Paragraph changed = state.paragraphs[paragraph];
        if (changed.length + 1 + length > MOST_CHARACTERS) {
            return CAPACITY_EXCEEDED;
        }
        saveState();
        changed.append(tab == 1 ? TAB : ' ');
        for (int i = 0; i < length; i++) {
            changed.append('a' + letter);
        }
        return changed.length;
    }

    public int addAmount(int paragraph, int hundredths) {
        if (!isParagraph(paragraph) || !isWithin(hundredths, 0, MOST_HUNDREDTHS)) {
            return INVALID_ARGUMENT;
        }
        Paragraph changed = state.paragraphs[paragraph];
        int whole = hundredths / 100;
        if (changed.length + 1 + digitsOf(whole) + 3 > MOST_CHARACTERS) {
            return CAPACITY_EXCEEDED;
        }
        saveState();
        changed.append(TAB);
        for (int unit = GREATEST_WHOLE_UNIT; unit > 0; unit /= 10) {
            if (unit == 1 || whole >= unit) {
                changed.append('0' + whole / unit % 10);
            }
        }
        changed.append('.');
        changed.append('0' + hundredths / 10 % 10);
        changed.append('0' + hundredths % 10);
        return changed.length;
    }

    // ---- looking

    public int count(int what) {
        switch (what) {
            case 0:
                return state.columns;
            case 1:
                return state.distance;
            case 2:
                return state.paragraphCount;
            case 3:
                int all = 0;
                for (int i = 0; i < state.paragraphCount; i++) {
                    layOut(i, state.columns);
                    all += layout.lineCount();
                }
                return all;
            case 4:
                return textLength;
            case 5:
                return savedCount;
            default:
                return INVALID_ARGUMENT;
        }
    }

    public int style(int style, int what) {
        if (!isStyle(style)) {
            return INVALID_ARGUMENT;
        }
        Style asked = state.styles[style];
        switch (what) {
            case 0:
                return asked.first;
            case 1:
                return asked.hanging;
            case 2:
                return asked.stopsBefore(MOST_POSITION + 1);
            case 3:
                return multipleBehind(asked.lastTab(), state.distance);
            default:
                return INVALID_ARGUMENT;
        }
    }

    public int stop(int style, int stop, int what) {
        if (!isStyle(style) || stop < 0 || !isWithin(what, 0, 2)) {
            return INVALID_ARGUMENT;
        }
        Style asked = state.styles[style];
        int position = asked.positionOf(stop);
        if (position == NONE || what == 0) {
            return position;
        }
        return what == 1 ? asked.kindAt(position) : asked.leaderAt(position);
    }

    public int character(int paragraph, int index) {
        if (!isParagraph(paragraph) || index < 0) {
            return INVALID_ARGUMENT;
        }
        return state.paragraphs[paragraph].characterAt(index);
    }

    // ---- lines

    public int lines(int paragraph) {
        if (!isParagraph(paragraph)) {
            return INVALID_ARGUMENT;
        }
        layOut(paragraph, state.columns);
        return layout.lineCount();
    }

    public int cell(int paragraph, int line, int column) {
        if (!isParagraph(paragraph) || line < 0 || !isWithin(column, 0, state.columns - 1)) {
            return INVALID_ARGUMENT;
        }
        layOut(paragraph, state.columns);
        if (line >= layout.lineCount()) {
            return NONE;
        }
        Pieces pieces = layout.pieces;
        int piece = pieces.pieceAt(line, column);
        if (piece == NOTHING) {
            return styleOf(paragraph).kindAt(column) == BAR ? '|' : ' ';
        }
        if (pieces.leaders[piece] != 0) {
            return leaderCharacter(pieces.leaders[piece]);
        }
        int index = pieces.sources[piece] + column - pieces.columns[piece];
        return state.paragraphs[paragraph].characterAt(index);
    }

    public int field(int paragraph, int field, int what) {
        if (!isParagraph(paragraph) || field < 0 || !isWithin(what, 0, FIELD_PROPERTIES - 1)) {
            return INVALID_ARGUMENT;
        }
        layOut(paragraph, state.columns);
        if (field >= layout.words.fieldCount || field >= MOST_FIELDS) {
            return NONE;
        }
        return layout.fields[field][what];
    }

    public int holds(int paragraph, int what) {
        if (!isParagraph(paragraph) || !isWithin(what, 0, 3)) {
            return INVALID_ARGUMENT;
        }
        layOut(paragraph, state.columns);
        int ofWords = layout.pieces.filled(false);
        int ofLeaders = layout.pieces.filled(true);
        int ofBars = layout.barColumns(styleOf(paragraph));
        switch (what) {
            case 0:
                return ofWords;
            case 1:
                return ofLeaders;
            case 2:
                return ofBars;
            default:
                return layout.lineCount() * state.columns - ofWords - ofLeaders - ofBars;
        }
    }

    public int linesWith(int paragraph, int columns) {
        if (!isParagraph(paragraph) || !isWithin(columns, LEAST_COLUMNS, MOST_COLUMNS)) {
            return INVALID_ARGUMENT;
        }
        layOut(paragraph, columns);
        return layout.lineCount();
    }

    public int leastColumns(int paragraph, int lines) {
        if (!isParagraph(paragraph) || !isWithin(lines, 1, MOST_LINES_ASKED)) {
            return INVALID_ARGUMENT;
        }
        for (int columns = LEAST_COLUMNS; columns <= MOST_COLUMNS; columns++) {
            layOut(paragraph, columns);
            if (layout.lineCount() <= lines) {
                return columns;
            }
        }
        return NONE;
    }

    public int undo() {
        if (savedCount < 1) {
            return ILLEGAL_STATE;
        }
        savedCount--;
        state.takeAllOf(saved[savedCount]);
        return savedCount;
    }

    // ---- what the calls share

    private void saveState() {
        if (savedCount >= MOST_SAVED) {
            // The object of the oldest one goes to the end, and is used again.
            State oldest = saved[0];
            for (int i = 1; i < MOST_SAVED; i++) {
                saved[i - 1] = saved[i];
            }
            saved[MOST_SAVED - 1] = oldest;
            savedCount = MOST_SAVED - 1;
        }
        saved[savedCount].takeAllOf(state);
        savedCount++;
    }

    private boolean isStyle(int style) {
        return isWithin(style, 0, STYLES - 1);
    }

    private boolean isParagraph(int paragraph) {
        return isWithin(paragraph, 0, state.paragraphCount - 1);
    }

    private Style styleOf(int paragraph) {
        return state.styles[state.paragraphs[paragraph].style];
    }

    private void layOut(int paragraph, int columns) {
        layout.fill(state.paragraphs[paragraph], styleOf(paragraph), columns, state.distance);
    }

    private static boolean isWithin(int value, int least, int most) {
        return value >= least && value <= most;
    }

    private static boolean isDigit(int character) {
        return isWithin(character, '0', '9');
    }

    private static boolean isParagraphCharacter(int character) {
        return isWithin(character, 'a', 'z') || isDigit(character) || character == '.'
                || character == ',' || character == ' ' || character == TAB;
    }

    private static int digitsOf(int whole) {
        int digits = 1;
        for (int unit = GREATEST_WHOLE_UNIT; unit > 1; unit /= 10) {
            if (whole >= unit) {
                digits++;
            }
        }
        return digits;
    }

    /** The least multiple of the distance that is greater than the column. */
    private static int multipleBehind(int column, int distance) {
        int divisor = Math.max(1, distance);
        return (column / divisor + 1) * divisor;
    }

    private static int leaderCharacter(int leader) {
        switch (leader) {
            case 1:
                return '.';
            case 2:
                return '-';
            case 3:
                return '_';
            default:
                return ' ';
        }
    }

    /** All that undo() brings back: everything but the text. */
    private static final class State {
        int columns = 40;
        int distance = 8;
        int paragraphCount;
        final Style[] styles = new Style[STYLES];
        final Paragraph[] paragraphs = new Paragraph[MOST_PARAGRAPHS];

        State() {
            for (int i = 0; i < STYLES; i++) {
                styles[i] = new Style();
            }
            for (int i = 0; i < MOST_PARAGRAPHS; i++) {
                paragraphs[i] = new Paragraph();
            }
        }

        void takeAllOf(State other) {
            columns = other.columns;
            distance = other.distance;
            paragraphCount = other.paragraphCount;
            for (int i = 0; i < STYLES; i++) {
                styles[i].first = other.styles[i].first;
                styles[i].hanging = other.styles[i].hanging;
                styles[i].takeStopsOf(other.styles[i]);
            }
            for (int i = 0; i < MOST_PARAGRAPHS; i++) {
                paragraphs[i].takeFrom(other.paragraphs[i]);
            }
        }
    }

    /** The indents and the own stops of a style. */
    private static final class Style {
        int first;
        int hanging = 4;
        // For each position 0, or 1 + kind * LEADERS + leader of the stop there: like this, the
        // stops are always in the order of their positions, and no two have the same one.
        private final int[] stopAt = new int[MOST_POSITION + 1];

        boolean hasStop(int position) {
            return position >= 1 && position <= MOST_POSITION && stopAt[position] != 0;
        }

        int kindAt(int position) {
            return hasStop(position) ? (stopAt[position] - 1) / LEADERS : NONE;
        }

        int leaderAt(int position) {
            return hasStop(position) ? (stopAt[position] - 1) % LEADERS : NONE;
        }

        void putStop(int position, int kind, int leader) {
            if (isWithin(position, 1, MOST_POSITION)) {
                stopAt[position] = 1 + kind * LEADERS + leader;
            }
        }

        void dropStop(int position) {
            if (isWithin(position, 1, MOST_POSITION)) {
                stopAt[position] = 0;
            }
        }

        void dropStops() {
            for (int p = 1; p <= MOST_POSITION; p++) {
                stopAt[p] = 0;
            }
        }

        void takeStopsOf(Style other) {
            for (int p = 1; p <= MOST_POSITION; p++) {
                stopAt[p] = other.stopAt[p];
            }
        }

        /** How many stops have a position less than this one. */
        int stopsBefore(int position) {
            int stops = 0;
            for (int p = 1; p <= MOST_POSITION && p < position; p++) {
                if (stopAt[p] != 0) {
                    stops++;
                }
            }
            return stops;
        }

        /** The position of the stop with this number, or NONE. */
        int positionOf(int number) {
            int stops = 0;
            for (int p = 1; p <= MOST_POSITION; p++) {
                if (stopAt[p] != 0) {
                    if (stops == number) {
                        return p;
                    }
                    stops++;
                }
            }
            return NONE;
        }

        /** Whether an own stop that is no bar has this position. */
        boolean hasTab(int position) {
            return hasStop(position) && stopAt[position] <= BAR * LEADERS;
        }

        /** The greatest position of the own stops that are no bars, or 0. */
        int lastTab() {
            for (int p = MOST_POSITION; p > 0; p--) {
                if (hasTab(p)) {
                    return p;
                }
            }
            return 0;
        }

        /** The position of the own stop, but no bar, that is next behind a column, or NONE. */
        int tabBehind(int column) {
            for (int p = column + 1; p <= MOST_POSITION; p++) {
                if (hasTab(p)) {
                    return p;
                }
            }
            return NONE;
        }
    }

    /** A paragraph's style and its characters. */
    private static final class Paragraph {
        int style;
        int length;
        private final int[] characters = new int[MOST_CHARACTERS];

        void append(int character) {
            if (isWithin(length, 0, MOST_CHARACTERS - 1)) {
                characters[length] = character;
                length++;
            }
        }

        /** The character at an index from 0, or NONE behind the last one. */
        int characterAt(int index) {
            boolean exists = index >= 0 && index < length && index < MOST_CHARACTERS;
            return exists ? characters[index] : NONE;
        }

        void takeFrom(Paragraph other) {
            style = other.style;
            length = other.length;
            for (int i = 0; i < MOST_CHARACTERS; i++) {
                characters[i] = other.characters[i];
            }
        }
    }

    /** Reads a text as stops. */
    private static final class StopReader {
        final Style read = new Style();
        private int[] text = new int[0];
        private int length;
        private int at;

        /** The error position, or NOTHING: then the stops stand in "read". */
        int readStops(int[] source, int sourceLength) {
            text = source;
            length = Math.min(sourceLength, source.length);
            at = 0;
            read.dropStops();
            skipSpaces();
            // One turn more than there can be stops, so that the ninth item is refused.
            for (int item = 0; item <= MOST_STOPS && at < length; item++) {
                if (item == MOST_STOPS || !readItem()) {
                    return at;
                }
                skipSpaces();
            }
            return NOTHING;
        }

        /** Answers false, with "at" at the error position, if something is not allowed. */
        private boolean readItem() {
            int kind = kindOf(next());
            if (kind == NOTHING) {
                return false;
            }
            at++;
            skipSpaces();
            int start = at;
            int position = readPosition();
            if (position == 0) {
                return false;
            }
            if (position > MOST_POSITION || read.hasStop(position)) {
                at = start;
                return false;
            }
            skipSpaces();
            int leader = kind == BAR ? 0 : leaderOf(next());
            if (leader != 0) {
                at++;
                skipSpaces();
            }
            if (next() != ';') {
                return false;
            }
            at++;
            read.putStop(position, kind, leader);
            return true;
        }

        /** Reads one or two digits, the first of which is not 0; 0 if there are none. */
        private int readPosition() {
            if (!isDigit(next()) || next() == '0') {
                return 0;
            }
            int position = next() - '0';
            at++;
            if (isDigit(next())) {
                position = position * 10 + next() - '0';
                at++;
            }
            return position;
        }

        private void skipSpaces() {
            while (at < length && next() == ' ') {
                at++;
            }
        }

        /** The character that is read next, or NOTHING at the end of the text. */
        private int next() {
            return at >= 0 && at < length && at < text.length ? text[at] : NOTHING;
        }

        private static int kindOf(int character) {
            switch (character) {
                case 'l':
                    return LEFT;
                case 'r':
                    return RIGHT;
                case 'm':
                    return MIDDLE;
                case 'p':
                    return POINT;
                case 'b':
                    return BAR;
                default:
                    return NOTHING;
            }
        }

        private static int leaderOf(int character) {
            for (int leader = 1; leader < LEADERS; leader++) {
                if (leaderCharacter(leader) == character) {
                    return leader;
                }
            }
            return 0;
        }
    }

    /** The words of a paragraph, numbered through all of its fields. */
    private static final class Words {
        int fieldCount;
        private int wordCount;
        private final int[] starts = new int[MOST_CHARACTERS];
        private final int[] lengths = new int[MOST_CHARACTERS];
        // How many characters of the word are ahead of its first ".", or NOTHING.
        private final int[] points = new int[MOST_CHARACTERS];
        // For each field the number of the first word behind it.
        private final int[] ends = new int[MOST_FIELDS];

        void take(Paragraph paragraph) {
            fieldCount = 0;
            wordCount = 0;
            boolean inWord = false;
            for (int i = 0; i < paragraph.length && i < MOST_CHARACTERS; i++) {
                int character = paragraph.characterAt(i);
                boolean parts = character == ' ' || character == TAB;
                if (!parts && !inWord) {
                    startWord(i);
                }
                if (!parts) {
                    growWord(character);
                }
                if (character == TAB) {
                    endField();
                }
                inWord = !parts;
            }
            endField();
        }

        private void startWord(int index) {
            if (wordCount < MOST_CHARACTERS) {
                starts[wordCount] = index;
                lengths[wordCount] = 0;
                points[wordCount] = NOTHING;
                wordCount++;
            }
        }

        private void growWord(int character) {
            int word = wordCount - 1;
            if (isWithin(word, 0, MOST_CHARACTERS - 1)) {
                if (character == '.' && points[word] == NOTHING) {
                    points[word] = lengths[word];
                }
                lengths[word]++;
            }
        }

        private void endField() {
            if (fieldCount < MOST_FIELDS) {
                ends[fieldCount] = wordCount;
                fieldCount++;
            }
        }

        int firstOf(int field) {
            return field >= 1 && field <= MOST_FIELDS ? ends[field - 1] : 0;
        }

        int endOf(int field) {
            return field >= 0 && field < MOST_FIELDS ? ends[field] : 0;
        }

        int startOf(int word) {
            return word >= 0 && word < MOST_CHARACTERS ? starts[word] : 0;
        }

        int lengthOf(int word) {
            return word >= 0 && word < MOST_CHARACTERS ? lengths[word] : 0;
        }

        int pointOf(int word) {
            return word >= 0 && word < MOST_CHARACTERS ? points[word] : NOTHING;
        }
    }

    /** What stands in the lines: rows of characters of one word, and rows of leaders. */
    private static final class Pieces {
        // Each piece comes from a tab or from a character of its own.
        private static final int MOST_PIECES = MOST_CHARACTERS;

        private int pieceCount;
        private final int[] rows = new int[MOST_PIECES];
        final int[] columns = new int[MOST_PIECES];
        private final int[] lengths = new int[MOST_PIECES];
        // 0 for a piece of a word.
        final int[] leaders = new int[MOST_PIECES];
        // For a piece of a word the index of its first character in the paragraph.
        final int[] sources = new int[MOST_PIECES];

        void removeAll() {
            pieceCount = 0;
        }

        void add(int row, int column, int length, int leader, int source) {
            if (pieceCount < MOST_PIECES) {
                rows[pieceCount] = row;
                columns[pieceCount] = column;
                lengths[pieceCount] = length;
                leaders[pieceCount] = leader;
                sources[pieceCount] = source;
                pieceCount++;
            }
        }

        /** The number of the piece that fills this column of this line, or NOTHING. */
        int pieceAt(int row, int column) {
            for (int i = 0; i < pieceCount && i < MOST_PIECES; i++) {
                if (rows[i] == row && isWithin(column, columns[i], columns[i] + lengths[i] - 1)) {
                    return i;
                }
            }
            return NOTHING;
        }

        /** How many columns hold leaders, or characters of words. */
        int filled(boolean byLeaders) {
            int filled = 0;
            for (int i = 0; i < pieceCount && i < MOST_PIECES; i++) {
                if (byLeaders == (leaders[i] != 0)) {
                    filled += lengths[i];
                }
            }
            return filled;
        }
    }

    /** Fills the lines of a paragraph. */
    private static final class Layout {
        final Words words = new Words();
        final Pieces pieces = new Pieces();
        final int[][] fields = new int[MOST_FIELDS][FIELD_PROPERTIES];
        private int columns;
        private int distance;
        private int hanging;
        private int row;
        private int c;
        private int current;
        private int runEnd;
        private int runLength;
        private int runPoint;

        int lineCount() {
            return row + 1;
        }

        void fill(Paragraph paragraph, Style style, int width, int stopDistance) {
            words.take(paragraph);
            pieces.removeAll();
            columns = width;
            distance = stopDistance;
            hanging = style.hanging;
            row = 0;
            c = style.first;
            for (int f = 0; f < words.fieldCount && f < MOST_FIELDS; f++) {
                current = f;
                if (f == 0) {
                    startField(NONE, NONE, NONE);
                    flow(words.firstOf(f), words.endOf(f));
                } else {
                    fillBehindTab(style);
                }
            }
        }

        private void fillBehindTab(Style style) {
            int first = words.firstOf(current);
            int end = words.endOf(current);
            int ownPosition = style.tabBehind(c);
            boolean own = ownPosition != NONE;
            // Without an own stop behind c, all default stops behind c are behind the own ones.
            int position = own ? ownPosition : multipleBehind(c, distance);
            int kind = own ? style.kindAt(position) : LEFT;
            measureRun(first, end, columns - (kind == LEFT ? position : c));
            if (position > columns || (first < end && runEnd == first)) {
                startLine();
                startField(NONE, NONE, NONE);
                flow(first, end);
                return;
            }
            startRun(position, kind, own ? style.leaderAt(position) : 0);
            flow(first, runEnd);
            if (runEnd < end) {
                startLine();
                flow(runEnd, end);
            }
        }

        /** Finds how many of the words have room in one row, and how long that row is. */
        private void measureRun(int first, int end, int room) {
            runEnd = first;
            runLength = 0;
            runPoint = NOTHING;
            for (int word = first; word < end; word++) {
                int start = word == first ? 0 : runLength + 1;
                if (start + words.lengthOf(word) > room) {
                    break;
                }
                if (runPoint == NOTHING && words.pointOf(word) != NOTHING) {
                    runPoint = start + words.pointOf(word);
                }
                runLength = start + words.lengthOf(word);
                runEnd = word + 1;
            }
            if (runPoint == NOTHING) {
                runPoint = runLength;
            }
        }

        /** Goes to where the run begins at its stop, with leaders as far as there. */
        private void startRun(int position, int kind, int leader) {
            int begin = position - runAhead(kind);
            int manner = AS_IT_SHOULD;
            if (begin < c) {
                begin = c;
                manner = PASSES;
            } else if (begin + runLength > columns) {
                begin = columns - runLength;
                manner = MOVED_BACK;
            }
            if (leader != 0 && begin > c) {
                pieces.add(row, c, begin - c, leader, 0);
            }
            c = begin;
            startField(position, kind, manner);
        }

        /** How much of the run should be ahead of its stop. */
        private int runAhead(int kind) {
            switch (kind) {
                case RIGHT:
                    return runLength;
                case MIDDLE:
                    return runLength / 2;
                case POINT:
                    return runPoint;
                default:
                    return 0;
            }
        }

        private void startField(int position, int kind, int manner) {
            if (current >= 0 && current < MOST_FIELDS) {
                int[] field = fields[current];
                field[FIELD_LINE] = row;
                field[FIELD_COLUMN] = c;
                field[FIELD_FILLED] = 0;
                field[FIELD_POSITION] = position;
                field[FIELD_KIND] = kind;
                field[FIELD_MANNER] = manner;
            }
        }

        private void startLine() {
            row++;
            c = hanging;
        }

        private void flow(int first, int end) {
            for (int word = first; word < end; word++) {
                if (word > first) {
                    if (c + 1 + words.lengthOf(word) <= columns) {
                        c++;
                    } else {
                        startLine();
                    }
                }
                place(word);
            }
        }

        /** Puts a word to c, parted if it is at the beginning of a line and too long for it. */
        private void place(int word) {
            int end = words.startOf(word) + words.lengthOf(word);
            int rest = words.lengthOf(word);
            while (rest > 0) {
                int length = Math.min(rest, Math.max(1, columns - c));
                pieces.add(row, c, length, 0, end - rest);
                c += length;
                noteFilled();
                rest -= length;
                if (rest > 0) {
                    startLine();
                }
            }
        }

        private void noteFilled() {
            if (current >= 0 && current < MOST_FIELDS) {
                int[] field = fields[current];
                if (field[FIELD_LINE] == row) {
                    field[FIELD_FILLED] = c - field[FIELD_COLUMN];
                }
            }
        }

        /** How many columns of all lines hold bars. */
        int barColumns(Style style) {
            int bars = 0;
            for (int p = 1; p < columns && p <= MOST_POSITION; p++) {
                if (style.kindAt(p) == BAR) {
                    for (int line = 0; line <= row; line++) {
                        if (pieces.pieceAt(line, p) == NOTHING) {
                            bars++;
                        }
                    }
                }
            }
            return bars;
        }
    }
}
