/**
 * A text editor with elastic tab stops: cells that are ended by tabs form column blocks over
 * adjacent lines, and each block is as wide as its contents need.
 */
public final class TabText {
    /** There is no such number. */
    public static final int NONE = -1;

    private static final int MAX_LINES = 24;
    private static final int MAX_CELLS = 8;
    private static final int MAX_SIGNS = 16;
    private static final int MAX_INPUT = 120;
    private static final int MAX_KEPT = 10;
    private static final int COLUMNS = MAX_CELLS - 1;
    private static final int SLOTS = MAX_LINES * MAX_CELLS;
    // Two blocks of one column have a line between them, so a column has one for every other line.
    private static final int MAX_BLOCKS = COLUMNS * MAX_LINES / 2;
    // Each cell with all its signs and the tab or line end behind it.
    private static final int MAX_CODES = SLOTS * (MAX_SIGNS + 1);
    private static final int TAB_STOP = 8;

    private static final int OUTSIDE = 0;
    private static final int TAB = 9;
    private static final int LINE_END = 10;
    private static final int BLANK = 32;
    private static final int LAST_CHARACTER = 126;

    private static final int AS_CELL = 0;
    private static final int AS_LINE = 1;
    private static final int AS_TEXT = 2;

    private static final int BLANK_CELL = 0;
    private static final int NUMBER = 1;
    private static final int WORD = 2;

    private static final int LEFT = 0;
    private static final int RIGHT = 1;
    private static final int CENTERED = 2;
    // The document gives 3 to "automatic" as a column's setting and to "decimal" as a block's.
    private static final int AUTOMATIC = 3;
    private static final int DECIMAL = 3;

    private static final int PADDING = 0;
    private static final int LEAST_WIDTH = 1;
    private static final int GRID = 2;

    private static final int LAST_COUNT = 8;
    private static final int LAST_LINE_FACT = 3;
    private static final int LAST_CELL_FACT = 4;
    private static final int LAST_BLOCK_FACT = 7;

    private final Input input = new Input();
    private final Format format = new Format();
    private final History history = new History();
    private final Layout layout = new Layout();
    private final Layout trial = new Layout();

    public TabText() {
        measure(layout);
    }

    // ---- input

    public int append(int code) throws IllegalArgumentException, IllegalStateException {
        if (code < BLANK || code > LAST_CHARACTER) {
            throw new IllegalArgumentException("not a character");
        }
        if (input.isFull()) {
            throw new IllegalStateException("the buffer is full");
        }
        return input.add(code);
    }

    public int clearInput() {
        return input.empty();
    }

    public int firstError(int kind) throws IllegalArgumentException {
        if (kind < AS_CELL || kind > AS_TEXT) {
            throw new IllegalArgumentException("no such kind");
        }
        return input.firstFault(kind);
    }

    public int load() throws IllegalStateException {
        requireInput(AS_TEXT);
        Page page = history.save();
        page.clear();
        page.putInput(0, input);
        input.empty();
        measure(layout);
        return cells().lines();
    }

    // ---- edits

    public int type(int line, int cell, int offset, int code)
            throws IndexOutOfBoundsException, IllegalArgumentException, IllegalStateException {
        requireTypable(line, cell, offset, code);
        int place = cells().start(line, cell) + offset;
        history.save().put(place, code);
        measure(layout);
        if (code == LINE_END) {
            return cells().lines();
        }
        return code == TAB ? cells().cellsOf(line) : cells().length(line, cell);
    }

    public int erase(int line, int cell, int offset)
            throws IndexOutOfBoundsException, IllegalStateException {
        requireOffset(line, cell, offset);
        if (!cells().canErase(line, cell, offset)) {
            throw new IllegalStateException("nothing can be erased here");
        }
        int place = cells().start(line, cell) + offset;
        int erased = history.page().codeAt(place);
        history.save().cut(place, 1);
        measure(layout);
        return erased;
    }

    public int setCell(int line, int cell) throws IndexOutOfBoundsException, IllegalStateException {
        requireCell(line, cell);
        requireInput(AS_CELL);
        int place = cells().start(line, cell);
        int previous = cells().length(line, cell);
        Page page = history.save();
        page.cut(place, previous);
        page.putInput(place, input);
        input.empty();
        measure(layout);
        return previous;
    }

    public int insertLine(int line) throws IndexOutOfBoundsException, IllegalStateException {
        int lines = cells().lines();
        if (line < 0 || line > lines) {
            throw new IndexOutOfBoundsException("no such place for a line");
        }
        requireInput(AS_LINE);
        if (lines >= MAX_LINES) {
            throw new IllegalStateException("there are 24 lines");
        }
        boolean last = line == lines;
        int place = last ? history.page().size() : cells().lineStart(line);
        Page page = history.save();
        page.put(place, LINE_END);
        page.putInput(last ? place + 1 : place, input);
        input.empty();
        measure(layout);
        return cells().lines();
    }

    public int removeLine(int line) throws IndexOutOfBoundsException, IllegalStateException {
        requireLine(line);
        if (cells().lines() <= 1) {
            throw new IllegalStateException("there is only one line");
        }
        boolean last = line == cells().lines() - 1;
        int start = cells().lineStart(line);
        int length = cells().lineEnd(line) - start;
        // The last line has no line end of its own: the one before it goes instead.
        history.save().cut(last ? start - 1 : start, length + 1);
        measure(layout);
        return cells().lines();
    }

    public int moveLine(int from, int to) throws IndexOutOfBoundsException {
        requireLine(from);
        requireLine(to);
        Order order = new Order(cells().lines());
        order.move(from, to);
        arrange(order);
        measure(layout);
        return layout.blocks.size();
    }

    public int sort(int block, int skip, boolean descending)
            throws IndexOutOfBoundsException, IllegalArgumentException {
        requireBlock(block);
        int first = layout.blocks.first(block);
        int last = layout.blocks.last(block);
        if (skip < 0 || skip > last - first + 1) {
            throw new IllegalArgumentException("skip is out of range");
        }
        Order order = new Order(cells().lines());
        int column = layout.blocks.column(block);
        sortLines(order, first + skip, last, column, descending);
        arrange(order);
        measure(layout);
        return order.moved();
    }

    public int insertColumn(int block) throws IndexOutOfBoundsException, IllegalStateException {
        requireBlock(block);
        int first = layout.blocks.first(block);
        int last = layout.blocks.last(block);
        if (cells().hasFullLine(first, last)) {
            throw new IllegalStateException("a line has 8 cells");
        }
        int column = layout.blocks.column(block);
        Page page = history.save();
        // From the last line on, so that the places of the lines before it stay as measured.
        for (int line = last; line >= first; line--) {
            page.put(cells().start(line, column), TAB);
        }
        measure(layout);
        return last - first + 1;
    }

    public int removeColumn(int block) throws IndexOutOfBoundsException {
        requireBlock(block);
        int first = layout.blocks.first(block);
        int last = layout.blocks.last(block);
        int column = layout.blocks.column(block);
        int filled = 0;
        Page page = history.save();
        // From the last line on, so that the places of the lines before it stay as measured.
        for (int line = last; line >= first; line--) {
            filled += cells().kind(line, column) == BLANK_CELL ? 0 : 1;
            page.cut(cells().start(line, column), cells().length(line, column) + 1);
        }
        measure(layout);
        return filled;
    }

    public int retab(int line, int gap)
            throws IndexOutOfBoundsException, IllegalArgumentException, IllegalStateException {
        requireLine(line);
        if (gap < 1 || gap > MAX_SIGNS) {
            throw new IllegalArgumentException("gap is out of range");
        }
        int start = cells().lineStart(line);
        int end = cells().lineEnd(line);
        int tabs = history.page().countRuns(start, end, gap);
        if (cells().cellsOf(line) + tabs > MAX_CELLS) {
            throw new IllegalStateException("the line would have too many cells");
        }
        history.save().replaceRuns(start, end, gap);
        measure(layout);
        return tabs;
    }

    public int undo() throws IllegalStateException {
        if (history.undos() <= 0) {
            throw new IllegalStateException("nothing is kept for undo");
        }
        history.stepBack();
        measure(layout);
        return history.undos();
    }

    public int redo() throws IllegalStateException {
        if (history.redos() <= 0) {
            throw new IllegalStateException("nothing is kept for redo");
        }
        history.stepForward();
        measure(layout);
        return history.redos();
    }

    // ---- alignment and spacing

    public int setAlignment(int column, int alignment) throws IllegalArgumentException {
        if (column < 0 || column >= COLUMNS || alignment < LEFT || alignment > AUTOMATIC) {
            throw new IllegalArgumentException("no such column or alignment");
        }
        int previous = format.changeAlignment(column, alignment);
        measure(layout);
        return previous;
    }

    public int setSpacing(int what, int value) throws IllegalArgumentException {
        if (!format.allowsSpacing(what, value)) {
            throw new IllegalArgumentException("no such spacing");
        }
        int previous = format.changeSpacing(what, value);
        measure(layout);
        return previous;
    }

    // ---- what there is

    public int count(int what) throws IllegalArgumentException {
        if (what < 0 || what > LAST_COUNT) {
            throw new IllegalArgumentException("no such number");
        }
        return countFact(what);
    }

    public int line(int line, int what) throws IndexOutOfBoundsException, IllegalArgumentException {
        requireLine(line);
        if (what < 0 || what > LAST_LINE_FACT) {
            throw new IllegalArgumentException("no such property");
        }
        return layout.lineFact(line, what);
    }

    public int cell(int line, int cell, int what)
            throws IndexOutOfBoundsException, IllegalArgumentException {
        requireCell(line, cell);
        if (what < 0 || what > LAST_CELL_FACT) {
            throw new IllegalArgumentException("no such property");
        }
        return layout.cellFact(line, cell, what, format);
    }

    public int letter(int line, int cell, int offset) throws IndexOutOfBoundsException {
        requireCell(line, cell);
        if (offset < 0 || offset >= cells().length(line, cell)) {
            throw new IndexOutOfBoundsException("no sign behind this offset");
        }
        return signAt(line, cell, offset);
    }

    public int shown(int line, int column) throws IndexOutOfBoundsException {
        requireShownPlace(line, column);
        int cell = layout.cellAt(line, column);
        int offset = column - layout.x(line, cell) - layout.shift(line, cell, format);
        if (offset < 0 || offset >= cells().length(line, cell)) {
            return BLANK;
        }
        return signAt(line, cell, offset);
    }

    public int hit(int line, int column) throws IndexOutOfBoundsException {
        requireShownPlace(line, column);
        return layout.cellAt(line, column);
    }

    public int find(int line, int cell) throws IndexOutOfBoundsException, IllegalStateException {
        requireCell(line, cell);
        requireInput(AS_CELL);
        int from = cell + 1;
        for (int row = line; row < cells().lines(); row++) {
            for (int place = from; place < cells().cellsOf(row); place++) {
                if (equalsInput(row, place)) {
                    return 100 * row + place;
                }
            }
            from = 0;
        }
        return NONE;
    }

    // ---- blocks

    public int block(int block, int what)
            throws IndexOutOfBoundsException, IllegalArgumentException {
        requireBlock(block);
        if (what < 0 || what > LAST_BLOCK_FACT) {
            throw new IllegalArgumentException("no such property");
        }
        return layout.blocks.fact(block, what);
    }

    public long sum(int block) throws IndexOutOfBoundsException {
        requireBlock(block);
        return layout.blocks.total(block);
    }

    public double mean(int block) throws IndexOutOfBoundsException {
        requireBlock(block);
        int numbers = layout.blocks.numbers(block);
        if (numbers <= 0) {
            return 0.0;
        }
        return (double) layout.blocks.total(block) / (double) (10000 * numbers);
    }

    public int touched(int line) throws IndexOutOfBoundsException {
        requireLine(line);
        return layout.blocks.countBetween(line - 1, line + 1);
    }

    public int ifTyped(int line, int cell, int offset, int code)
            throws IndexOutOfBoundsException, IllegalArgumentException, IllegalStateException {
        requireTypable(line, cell, offset, code);
        int place = cells().start(line, cell) + offset;
        // What is typed is one code of the page, so that taking it out again restores the text.
        history.page().put(place, code);
        measure(trial);
        history.page().cut(place, 1);
        return layout.countOtherX(trial);
    }

    public long digest() {
        long hash = 1949;
        for (int what = 0; what <= LAST_COUNT; what++) {
            hash = mix(hash, countFact(what));
        }
        hash = format.mixInto(hash);
        for (int line = 0; line < cells().lines(); line++) {
            hash = mixLine(hash, line);
        }
        hash = layout.blocks.mixInto(hash);
        return input.mixInto(hash);
    }

    // ---- what the calls share

    private Cells cells() {
        return layout.cells;
    }

    private void measure(Layout measured) {
        measured.cells.read(history.page());
        measured.blocks.collect(measured.cells, format);
        measured.placeCells();
    }

    private void requireLine(int line) {
        if (!cells().hasLine(line)) {
            throw new IndexOutOfBoundsException("no such line");
        }
    }

    private void requireCell(int line, int cell) {
        if (!cells().hasCell(line, cell)) {
            throw new IndexOutOfBoundsException("no such line or cell");
        }
    }

    private void requireOffset(int line, int cell, int offset) {
        requireCell(line, cell);
        if (offset < 0 || offset > cells().length(line, cell)) {
            throw new IndexOutOfBoundsException("no such offset");
        }
    }

    private void requireTypable(int line, int cell, int offset, int code) {
        requireOffset(line, cell, offset);
        if (code != TAB && code != LINE_END && !isSign(code)) {
            throw new IllegalArgumentException("neither a sign nor a tab nor a line end");
        }
        if (!cells().hasRoomFor(line, cell, code)) {
            throw new IllegalStateException("the cell, the line or the text is full");
        }
    }

    private void requireShownPlace(int line, int column) {
        requireLine(line);
        if (column < 0) {
            throw new IndexOutOfBoundsException("no such column");
        }
    }

    private void requireBlock(int block) {
        if (block < 0 || block >= layout.blocks.size()) {
            throw new IndexOutOfBoundsException("no such block");
        }
    }

    private void requireInput(int kind) {
        if (input.firstFault(kind) != input.length()) {
            throw new IllegalStateException("the buffer has a syntax error");
        }
    }

    private int signAt(int line, int cell, int offset) {
        return history.page().codeAt(cells().start(line, cell) + offset);
    }

    private boolean equalsInput(int line, int cell) {
        if (cells().length(line, cell) != input.length()) {
            return false;
        }
        for (int i = 0; i < input.length(); i++) {
            if (signAt(line, cell, i) != input.codeAt(i)) {
                return false;
            }
        }
        return true;
    }

    private void arrange(Order order) {
        Page before = history.page();
        Page after = history.save();
        after.clear();
        for (int i = 0; i < cells().lines(); i++) {
            int line = order.lineAt(i);
            if (i > 0) {
                after.add(LINE_END);
            }
            after.addFrom(before, cells().lineStart(line), cells().lineEnd(line));
        }
    }

    // By insertion, because lines that are equal have to keep their sequence.
    private void sortLines(Order order, int from, int last, int column, boolean descending) {
        for (int next = from + 1; next <= last; next++) {
            int place = next;
            while (place > from
                    && comesBefore(order.lineAt(next), order.lineAt(place - 1), column, descending)) {
                place--;
            }
            order.move(next, place);
        }
    }

    private boolean comesBefore(int line, int other, int column, boolean descending) {
        int kind = cells().kind(line, column);
        int otherKind = cells().kind(other, column);
        if (kind != otherKind) {
            return sortRank(kind) < sortRank(otherKind);
        }
        int compared = 0;
        if (kind == NUMBER) {
            compared = Long.compare(cells().value(line, column), cells().value(other, column));
        } else if (kind == WORD) {
            compared = compareWords(line, other, column);
        }
        return descending ? compared > 0 : compared < 0;
    }

    private static int sortRank(int kind) {
        if (kind == NUMBER) {
            return 0;
        }
        return kind == WORD ? 1 : 2;
    }

    private int compareWords(int line, int other, int column) {
        int length = cells().length(line, column);
        int otherLength = cells().length(other, column);
        for (int i = 0; i < length && i < otherLength; i++) {
            int compared = Integer.compare(signAt(line, column, i), signAt(other, column, i));
            if (compared != 0) {
                return compared;
            }
        }
        return Integer.compare(length, otherLength);
    }

    private int countFact(int what) {
        switch (what) {
            case 0:
                return cells().lines();
            case 1:
                return cells().cellCount();
            case 2:
                return cells().signCount();
            case 3:
                return layout.blocks.size();
            case 4:
                return cells().countKind(NUMBER);
            case 5:
                return cells().countKind(BLANK_CELL);
            case 6:
                return layout.greatestShownLength();
            case 7:
                return history.undos();
            default:
                return history.redos();
        }
    }

    private long mixLine(long start, int line) {
        long hash = start;
        for (int what = 0; what <= LAST_LINE_FACT; what++) {
            hash = mix(hash, layout.lineFact(line, what));
        }
        for (int cell = 0; cell < cells().cellsOf(line); cell++) {
            for (int what = 0; what <= LAST_CELL_FACT; what++) {
                hash = mix(hash, layout.cellFact(line, cell, what, format));
            }
            for (int i = 0; i < cells().length(line, cell); i++) {
                hash = mix(hash, signAt(line, cell, i));
            }
        }
        return hash;
    }

    private static long mix(long hash, long value) {
        return 31 * hash + value;
    }

    private static boolean isSign(int code) {
        if (code >= 'a' && code <= 'z' || code >= 'A' && code <= 'Z' || isDigit(code)) {
            return true;
        }
        switch (code) {
            case BLANK:
            case '.':
            case ',':
            case '-':
            case '+':
            case ':':
            case '%':
            case '(':
            case ')':
                return true;
            default:
                return false;
        }
    }

    private static boolean isDigit(int code) {
        return code >= '0' && code <= '9';
    }

    /** The input buffer. */
    private static final class Input {
        private final int[] codes = new int[MAX_INPUT];
        private int length = 0;

        int length() {
            return length;
        }

        boolean isFull() {
            return length >= codes.length;
        }

        int add(int code) {
            if (length < codes.length) {
                codes[length] = code;
                length++;
            }
            return length;
        }

        int empty() {
            int had = length;
            length = 0;
            return had;
        }

        int codeAt(int at) {
            return at >= 0 && at < length ? codes[at] : OUTSIDE;
        }

        /** The code that a page holds for a character of the buffer. */
        int pageCodeAt(int at) {
            int code = codeAt(at);
            if (code == '|') {
                return TAB;
            }
            return code == '/' ? LINE_END : code;
        }

        int firstFault(int kind) {
            int signs = 0;
            int cells = 1;
            int lines = 1;
            for (int i = 0; i < length; i++) {
                int code = codes[i];
                if (code == '|' && kind >= AS_LINE && cells < MAX_CELLS) {
                    cells++;
                    signs = 0;
                } else if (code == '/' && kind >= AS_TEXT && lines < MAX_LINES) {
                    lines++;
                    cells = 1;
                    signs = 0;
                } else if (isSign(code) && signs < MAX_SIGNS) {
                    signs++;
                } else {
                    return i;
                }
            }
            return length;
        }

        long mixInto(long start) {
            long hash = mix(start, length);
            for (int i = 0; i < length; i++) {
                hash = mix(hash, codes[i]);
            }
            return hash;
        }
    }

    /** The alignments of the columns and the spacing, which do not belong to the text. */
    private static final class Format {
        private final int[] alignments = {
            AUTOMATIC, AUTOMATIC, AUTOMATIC, AUTOMATIC, AUTOMATIC, AUTOMATIC, AUTOMATIC
        };
        private int padding = 2;
        private int leastWidth = 0;
        private int grid = 1;

        int alignment(int column) {
            return column >= 0 && column < alignments.length ? alignments[column] : AUTOMATIC;
        }

        int padding() {
            return padding;
        }

        int changeAlignment(int column, int alignment) {
            int previous = alignment(column);
            if (column >= 0 && column < alignments.length) {
                alignments[column] = alignment;
            }
            return previous;
        }

        boolean allowsSpacing(int what, int value) {
            switch (what) {
                case PADDING:
                    return value >= 0 && value <= 8;
                case LEAST_WIDTH:
                    return value >= 0 && value <= 20;
                case GRID:
                    return value >= 1 && value <= 8;
                default:
                    return false;
            }
        }

        int changeSpacing(int what, int value) {
            int previous;
            if (what == PADDING) {
                previous = padding;
                padding = value;
            } else if (what == LEAST_WIDTH) {
                previous = leastWidth;
                leastWidth = value;
            } else {
                previous = grid;
                grid = value;
            }
            return previous;
        }

        int widthFor(int contentWidth) {
            int width = Math.max(contentWidth, leastWidth) + padding;
            if (grid <= 1) {
                return width;
            }
            return (width + grid - 1) / grid * grid;
        }

        long mixInto(long start) {
            long hash = start;
            for (int alignment : alignments) {
                hash = mix(hash, alignment);
            }
            hash = mix(hash, padding);
            hash = mix(hash, leastWidth);
            return mix(hash, grid);
        }
    }

    /**
     * A text as one row of codes, with tabs between the cells and line ends between the lines, so
     * that typing and erasing put in or take out one code.
     */
    private static final class Page {
        private final int[] codes = new int[MAX_CODES];
        private int size = 0;

        int size() {
            return size;
        }

        int codeAt(int at) {
            return at >= 0 && at < size ? codes[at] : OUTSIDE;
        }

        void clear() {
            size = 0;
        }

        void add(int code) {
            if (size < codes.length) {
                codes[size] = code;
                size++;
            }
        }

        void addFrom(Page other, int from, int to) {
            for (int i = from; i < to; i++) {
                add(other.codeAt(i));
            }
        }

        void becomeCopyOf(Page other) {
            System.arraycopy(other.codes, 0, codes, 0, other.size);
            size = other.size;
        }

        void put(int at, int code) {
            if (open(at, 1)) {
                codes[at] = code;
            }
        }

        void putInput(int at, Input input) {
            if (open(at, input.length())) {
                for (int i = 0; i < input.length(); i++) {
                    codes[at + i] = input.pageCodeAt(i);
                }
            }
        }

        private boolean open(int at, int count) {
            if (at < 0 || at > size || count < 0 || count > codes.length - size) {
                return false;
            }
            System.arraycopy(codes, at, codes, at + count, size - at);
            size += count;
            return true;
        }

        void cut(int at, int count) {
            if (at < 0 || count < 0 || at > size || count > size - at) {
                return;
            }
            System.arraycopy(codes, at + count, codes, at, size - at - count);
            size -= count;
        }

        /** The first place of the run of blanks that ends at a place; this place if there is none. */
        private int runStart(int start, int end) {
            int at = end;
            while (at > start && codeAt(at - 1) == BLANK) {
                at--;
            }
            return at;
        }

        int countRuns(int start, int end, int gap) {
            int runs = 0;
            int at = end;
            while (at > start) {
                int run = runStart(start, at);
                if (at - run >= gap) {
                    runs++;
                }
                at = run < at ? run : at - 1;
            }
            return runs;
        }

        // From the end on, so that the places before it stay as they were.
        void replaceRuns(int start, int end, int gap) {
            int at = end;
            while (at > start) {
                int run = runStart(start, at);
                if (at - run >= gap) {
                    cut(run, at - run);
                    put(run, TAB);
                }
                at = run < at ? run : at - 1;
            }
        }
    }

    /**
     * The text with those that are kept for undo (before it) and for redo (behind it) in a ring.
     * An edit keeps at most ten and forgets those for redo, and undo and redo only take from one
     * side what they give to the other: so there are never more than ten beside the text.
     */
    private static final class History {
        private final Page[] pages = new Page[MAX_KEPT + 1];
        private Page page = new Page();
        private int now = 0;
        private int undos = 0;
        private int redos = 0;

        History() {
            pages[0] = page;
        }

        Page page() {
            return page;
        }

        int undos() {
            return undos;
        }

        int redos() {
            return redos;
        }

        /** Keeps the text for undo, and hands out a copy of it that is the text from now on. */
        Page save() {
            int next = placeBehind();
            Page copy = pages[next];
            if (copy == null) {
                copy = new Page();
                pages[next] = copy;
            }
            copy.becomeCopyOf(page);
            page = copy;
            now = next;
            undos = Math.min(undos + 1, MAX_KEPT);
            redos = 0;
            return copy;
        }

        void stepBack() {
            if (undos > 0) {
                goTo(now > 0 ? now - 1 : MAX_KEPT);
                undos--;
                redos++;
            }
        }

        void stepForward() {
            if (redos > 0) {
                goTo(placeBehind());
                redos--;
                undos++;
            }
        }

        private int placeBehind() {
            return now < MAX_KEPT ? now + 1 : 0;
        }

        private void goTo(int place) {
            Page kept = pages[place];
            if (kept != null) {
                page = kept;
                now = place;
            }
        }
    }

    /** A sequence of the lines of a text. */
    private static final class Order {
        private final int[] lines = new int[MAX_LINES];
        private final int count;

        Order(int lineCount) {
            count = Math.min(lineCount, MAX_LINES);
            for (int i = 0; i < count; i++) {
                lines[i] = i;
            }
        }

        int lineAt(int place) {
            return place >= 0 && place < count ? lines[place] : 0;
        }

        void move(int from, int to) {
            if (from < 0 || from >= count || to < 0 || to >= count) {
                return;
            }
            int line = lines[from];
            for (int i = from; i < to; i++) {
                lines[i] = lines[i + 1];
            }
            for (int i = from; i > to; i--) {
                lines[i] = lines[i - 1];
            }
            lines[to] = line;
        }

        int moved() {
            int moved = 0;
            for (int i = 0; i < count; i++) {
                moved += lines[i] == i ? 0 : 1;
            }
            return moved;
        }
    }

    /** Where the cells of a page are, and what each of them is. */
    private static final class Cells {
        private int lines = 0;
        private final int[] cells = new int[MAX_LINES];
        private final int[] starts = new int[SLOTS];
        private final int[] lengths = new int[SLOTS];
        private final int[] kinds = new int[SLOTS];
        private final int[] wholes = new int[SLOTS];
        private final long[] values = new long[SLOTS];

        void read(Page page) {
            int line = 0;
            int cell = 0;
            int start = 0;
            for (int at = 0; at <= page.size(); at++) {
                int code = page.codeAt(at);
                if (code == TAB) {
                    readCell(page, line, cell, start, at);
                    cell++;
                    start = at + 1;
                } else if (code == LINE_END || code == OUTSIDE) {
                    readCell(page, line, cell, start, at);
                    line++;
                    cell = 0;
                    start = at + 1;
                }
            }
        }

        private void readCell(Page page, int line, int cell, int start, int end) {
            if (line >= MAX_LINES || cell >= MAX_CELLS) {
                return;
            }
            int slot = slot(line, cell);
            int kind = Reading.kindOf(page, start, end);
            starts[slot] = start;
            lengths[slot] = end - start;
            kinds[slot] = kind;
            wholes[slot] = kind == NUMBER ? Reading.wholeLength(page, start, end) : 0;
            values[slot] = kind == NUMBER ? Reading.valueOf(page, start, end) : 0;
            cells[line] = cell + 1;
            lines = line + 1;
        }

        static int slot(int line, int cell) {
            return line * MAX_CELLS + cell;
        }

        int lines() {
            return lines;
        }

        boolean hasLine(int line) {
            return line >= 0 && line < lines;
        }

        boolean hasCell(int line, int cell) {
            return line >= 0 && line < lines && cell >= 0 && cell < cells[line];
        }

        boolean endsWithTab(int line, int cell) {
            return line >= 0 && line < lines && cell >= 0 && cell < cells[line] - 1;
        }

        int cellsOf(int line) {
            return line >= 0 && line < lines ? cells[line] : 0;
        }

        int start(int line, int cell) {
            return hasCell(line, cell) ? starts[slot(line, cell)] : 0;
        }

        int length(int line, int cell) {
            return hasCell(line, cell) ? lengths[slot(line, cell)] : 0;
        }

        int kind(int line, int cell) {
            return hasCell(line, cell) ? kinds[slot(line, cell)] : BLANK_CELL;
        }

        int whole(int line, int cell) {
            return hasCell(line, cell) ? wholes[slot(line, cell)] : 0;
        }

        long value(int line, int cell) {
            return hasCell(line, cell) ? values[slot(line, cell)] : 0;
        }

        int lineStart(int line) {
            return start(line, 0);
        }

        int lineEnd(int line) {
            int last = cellsOf(line) - 1;
            return start(line, last) + length(line, last);
        }

        boolean hasRoomFor(int line, int cell, int code) {
            if (code == LINE_END) {
                return lines < MAX_LINES;
            }
            return code == TAB ? cellsOf(line) < MAX_CELLS : length(line, cell) < MAX_SIGNS;
        }

        boolean canErase(int line, int cell, int offset) {
            int length = length(line, cell);
            if (offset < length) {
                return true;
            }
            if (endsWithTab(line, cell)) {
                return length + length(line, cell + 1) <= MAX_SIGNS;
            }
            return hasLine(line + 1)
                    && length + length(line + 1, 0) <= MAX_SIGNS
                    && cellsOf(line) + cellsOf(line + 1) - 1 <= MAX_CELLS;
        }

        boolean hasFullLine(int first, int last) {
            for (int line = first; line <= last; line++) {
                if (cellsOf(line) >= MAX_CELLS) {
                    return true;
                }
            }
            return false;
        }

        int cellCount() {
            int count = 0;
            for (int line = 0; line < lines; line++) {
                count += cellsOf(line);
            }
            return count;
        }

        int signCount() {
            int count = 0;
            for (int line = 0; line < lines; line++) {
                count += signsOf(line);
            }
            return count;
        }

        int signsOf(int line) {
            int count = 0;
            for (int cell = 0; cell < cellsOf(line); cell++) {
                count += length(line, cell);
            }
            return count;
        }

        int countKind(int kind) {
            int count = 0;
            for (int line = 0; line < lines; line++) {
                for (int cell = 0; cell < cellsOf(line); cell++) {
                    count += kind(line, cell) == kind ? 1 : 0;
                }
            }
            return count;
        }

        int fixedLength(int line) {
            int at = 0;
            for (int cell = 0; cell < cellsOf(line); cell++) {
                at += length(line, cell);
                if (endsWithTab(line, cell)) {
                    at = at - at % TAB_STOP + TAB_STOP;
                }
            }
            return at;
        }
    }

    /** How the signs between two places of a page are read as a cell. */
    private static final class Reading {
        static int kindOf(Page page, int start, int end) {
            if (isBlank(page, start, end)) {
                return BLANK_CELL;
            }
            return isNumber(page, start, end) ? NUMBER : WORD;
        }

        private static boolean isBlank(Page page, int start, int end) {
            for (int at = start; at < end; at++) {
                if (page.codeAt(at) != BLANK) {
                    return false;
                }
            }
            return true;
        }

        private static boolean isNumber(Page page, int start, int end) {
            int digits = 0;
            int decimals = 0;
            boolean hasPoint = false;
            for (int at = start; at < end; at++) {
                int code = page.codeAt(at);
                if (isDigit(code)) {
                    digits += hasPoint ? 0 : 1;
                    decimals += hasPoint ? 1 : 0;
                } else if (code == '.' && !hasPoint) {
                    hasPoint = true;
                } else if (code != '-' || at > start) {
                    return false;
                }
            }
            boolean fractionFits = !hasPoint || decimals >= 1 && decimals <= 4;
            return digits >= 1 && digits <= 9 && fractionFits;
        }

        /** The length of what stands before the point of a number. */
        static int wholeLength(Page page, int start, int end) {
            int at = start;
            while (at < end && page.codeAt(at) != '.') {
                at++;
            }
            return at - start;
        }

        /** The value of a number in ten-thousandths. */
        static long valueOf(Page page, int start, int end) {
            long value = 0;
            for (int at = start; at < end; at++) {
                int code = page.codeAt(at);
                if (isDigit(code)) {
                    value = 10 * value + (code - '0');
                }
            }
            int point = start + wholeLength(page, start, end);
            int decimals = Math.max(0, end - point - 1);
            for (int i = decimals; i < 4; i++) {
                value *= 10;
            }
            return page.codeAt(start) == '-' ? -value : value;
        }
    }

    /** The column blocks of a text, in the sequence of their numbers. */
    private static final class Blocks {
        private int count = 0;
        private final int[] columns = new int[MAX_BLOCKS];
        private final int[] firsts = new int[MAX_BLOCKS];
        private final int[] lasts = new int[MAX_BLOCKS];
        private final int[] widths = new int[MAX_BLOCKS];
        private final int[] alignments = new int[MAX_BLOCKS];
        private final int[] contents = new int[MAX_BLOCKS];
        private final int[] numbers = new int[MAX_BLOCKS];
        private final int[] fractions = new int[MAX_BLOCKS];
        private final long[] totals = new long[MAX_BLOCKS];

        void collect(Cells cells, Format format) {
            count = 0;
            for (int column = 0; column < COLUMNS; column++) {
                for (int line = 0; line < cells.lines(); line++) {
                    boolean begins = cells.endsWithTab(line, column)
                            && !cells.endsWithTab(line - 1, column);
                    if (begins && count < MAX_BLOCKS) {
                        columns[count] = column;
                        firsts[count] = line;
                        lasts[count] = lastLine(cells, column, line);
                        measureBlock(count, cells, format);
                        count++;
                    }
                }
            }
        }

        private static int lastLine(Cells cells, int column, int first) {
            int line = first;
            while (line + 1 < cells.lines() && cells.endsWithTab(line + 1, column)) {
                line++;
            }
            return line;
        }

        private void measureBlock(int block, Cells cells, Format format) {
            addNumbers(block, cells);
            int setting = format.alignment(columns[block]);
            if (setting == AUTOMATIC && isDecimal(block, cells)) {
                alignments[block] = DECIMAL;
                measureDecimal(block, cells);
            } else {
                alignments[block] = setting == AUTOMATIC ? LEFT : setting;
                measurePlain(block, cells);
            }
            widths[block] = format.widthFor(contents[block]);
        }

        private void addNumbers(int block, Cells cells) {
            numbers[block] = 0;
            totals[block] = 0;
            for (int line = firsts[block]; line <= lasts[block]; line++) {
                if (cells.kind(line, columns[block]) == NUMBER) {
                    numbers[block]++;
                    totals[block] += cells.value(line, columns[block]);
                }
            }
        }

        private boolean isDecimal(int block, Cells cells) {
            // The cell in the first line may be the heading of the numbers below it.
            for (int line = firsts[block] + 1; line <= lasts[block]; line++) {
                if (cells.kind(line, columns[block]) == WORD) {
                    return false;
                }
            }
            return numbers[block] > 0;
        }

        private void measureDecimal(int block, Cells cells) {
            int column = columns[block];
            int whole = 0;
            int fraction = 0;
            int others = 0;
            for (int line = firsts[block]; line <= lasts[block]; line++) {
                int length = cells.length(line, column);
                if (cells.kind(line, column) == NUMBER) {
                    whole = Math.max(whole, cells.whole(line, column));
                    fraction = Math.max(fraction, length - cells.whole(line, column));
                } else {
                    others = Math.max(others, length);
                }
            }
            fractions[block] = fraction;
            contents[block] = Math.max(whole + fraction, others);
        }

        private void measurePlain(int block, Cells cells) {
            int greatest = 0;
            for (int line = firsts[block]; line <= lasts[block]; line++) {
                greatest = Math.max(greatest, cells.length(line, columns[block]));
            }
            fractions[block] = 0;
            contents[block] = greatest;
        }

        int size() {
            return count;
        }

        private boolean has(int block) {
            return block >= 0 && block < count;
        }

        int fact(int block, int what) {
            if (!has(block)) {
                return 0;
            }
            switch (what) {
                case 0:
                    return columns[block];
                case 1:
                    return firsts[block];
                case 2:
                    return lasts[block];
                case 3:
                    return widths[block];
                case 4:
                    return alignments[block];
                case 5:
                    return contents[block];
                case 6:
                    return numbers[block];
                default:
                    return fractions[block];
            }
        }

        int column(int block) {
            return has(block) ? columns[block] : 0;
        }

        int first(int block) {
            return has(block) ? firsts[block] : 0;
        }

        int last(int block) {
            return has(block) ? lasts[block] : 0;
        }

        int width(int block) {
            return has(block) ? widths[block] : 0;
        }

        int alignment(int block) {
            return has(block) ? alignments[block] : 0;
        }

        int numbers(int block) {
            return has(block) ? numbers[block] : 0;
        }

        int fractionWidth(int block) {
            return has(block) ? fractions[block] : 0;
        }

        long total(int block) {
            return has(block) ? totals[block] : 0;
        }

        int countBetween(int first, int last) {
            int found = 0;
            for (int block = 0; block < count; block++) {
                found += firsts[block] <= last && lasts[block] >= first ? 1 : 0;
            }
            return found;
        }

        long mixInto(long start) {
            long hash = start;
            for (int block = 0; block < count; block++) {
                for (int what = 0; what <= LAST_BLOCK_FACT; what++) {
                    hash = mix(hash, fact(block, what));
                }
                hash = mix(hash, totals[block]);
            }
            return hash;
        }
    }

    /** How a page is shown: its cells, its blocks, and the place of each cell. */
    private static final class Layout {
        private final Cells cells = new Cells();
        private final Blocks blocks = new Blocks();
        private final int[] xs = new int[SLOTS];
        private final int[] blockNumbers = new int[SLOTS];

        void placeCells() {
            for (int line = 0; line < cells.lines(); line++) {
                for (int cell = 0; cell < cells.cellsOf(line); cell++) {
                    blockNumbers[Cells.slot(line, cell)] = NONE;
                }
            }
            for (int block = 0; block < blocks.size(); block++) {
                for (int line = blocks.first(block); line <= blocks.last(block); line++) {
                    blockNumbers[Cells.slot(line, blocks.column(block))] = block;
                }
            }
            for (int line = 0; line < cells.lines(); line++) {
                placeCellsOf(line);
            }
        }

        private void placeCellsOf(int line) {
            int x = 0;
            for (int cell = 0; cell < cells.cellsOf(line); cell++) {
                int slot = Cells.slot(line, cell);
                xs[slot] = x;
                x += blocks.width(blockNumbers[slot]);
            }
        }

        int x(int line, int cell) {
            return cells.hasCell(line, cell) ? xs[Cells.slot(line, cell)] : 0;
        }

        int blockNumber(int line, int cell) {
            return cells.hasCell(line, cell) ? blockNumbers[Cells.slot(line, cell)] : NONE;
        }

        int shift(int line, int cell, Format format) {
            int block = blockNumber(line, cell);
            if (block == NONE) {
                return 0;
            }
            int field = blocks.width(block) - format.padding();
            int space = field - cells.length(line, cell);
            switch (blocks.alignment(block)) {
                case RIGHT:
                    return space;
                case CENTERED:
                    return space / 2;
                case DECIMAL:
                    return cells.kind(line, cell) == NUMBER
                            ? field - blocks.fractionWidth(block) - cells.whole(line, cell)
                            : space;
                default:
                    return 0;
            }
        }

        int cellFact(int line, int cell, int what, Format format) {
            switch (what) {
                case 0:
                    return cells.length(line, cell);
                case 1:
                    return cells.kind(line, cell);
                case 2:
                    return x(line, cell);
                case 3:
                    return shift(line, cell, format);
                default:
                    return blockNumber(line, cell);
            }
        }

        int lineFact(int line, int what) {
            switch (what) {
                case 0:
                    return cells.cellsOf(line);
                case 1:
                    return shownLength(line);
                case 2:
                    return cells.signsOf(line);
                default:
                    return cells.fixedLength(line);
            }
        }

        private int shownLength(int line) {
            int last = cells.cellsOf(line) - 1;
            return x(line, last) + cells.length(line, last);
        }

        int greatestShownLength() {
            int greatest = 0;
            for (int line = 0; line < cells.lines(); line++) {
                greatest = Math.max(greatest, shownLength(line));
            }
            return greatest;
        }

        /** The last cell of a line that begins at a column or before it. */
        int cellAt(int line, int column) {
            int found = 0;
            for (int cell = 1; cell < cells.cellsOf(line); cell++) {
                if (x(line, cell) <= column) {
                    found = cell;
                }
            }
            return found;
        }

        int countOtherX(Layout other) {
            int count = 0;
            for (int line = 0; line < cells.lines(); line++) {
                for (int cell = 0; cell < cells.cellsOf(line); cell++) {
                    boolean differs = other.cells.hasCell(line, cell)
                            && other.x(line, cell) != x(line, cell);
                    count += differs ? 1 : 0;
                }
            }
            return count;
        }
    }
}
