public final class LatinRectangles {
    public static final int NONE = -1;

    private static final int SIDE = 5;
    private static final int CELLS = SIDE * SIDE;
    private static final int LEAST_COLUMNS = 2;
    private static final int MOST_BANS = 20;
    private static final int MOST_BYTES = 500;
    private static final int APPENDED_BYTES = 20;
    private static final int MOST_COMPLETIONS = 1000;
    private static final int MOST_UNDOS = 10;
    private static final int SLOTS = 2;
    private static final int MOST_CYCLES = 20;

    private final Grid grid;
    private final Text text;
    private final Parser parser;
    private final Forces forces;
    private final Completions search;
    private final Transversals choices;
    private final Cycles cycles;
    private final History history;
    private final Snapshots snapshots;
    private final int[] plan;
    private int errorAt;

    public LatinRectangles() {
        grid = new Grid();
        text = new Text();
        parser = new Parser(text);
        forces = new Forces(grid);
        search = new Completions(grid);
        choices = new Transversals(grid);
        cycles = new Cycles(grid);
        history = new History();
        snapshots = new Snapshots();
        plan = new int[SIDE];
        errorAt = NONE;
    }

    public int append(int a, int b, int c, int d, int e) {
        if (text.length + APPENDED_BYTES > MOST_BYTES) {
            return NONE;
        }
        text.add(a);
        text.add(b);
        text.add(c);
        text.add(d);
        text.add(e);
        return text.length;
    }

    public int parse(int length) throws IllegalArgumentException {
        if (length < 0 || length > text.length) {
            throw new IllegalArgumentException("no such length");
        }
        boolean good = parser.read(length);
        text.length = 0;
        if (!good) {
            errorAt = parser.position;
            return parser.code;
        }
        errorAt = NONE;
        grid.copyFrom(parser.draft);
        history.clear();
        snapshots.clear();
        return 0;
    }

    public int errorPosition() {
        return errorAt;
    }

    public int size(int what) throws IllegalArgumentException {
        checkProperty(what, 6);
        switch (what) {
            case 0:
                return grid.rows;
            case 1:
                return grid.columns;
            case 2:
                return grid.filled;
            case 3:
                return grid.givens;
            case 4:
                return grid.bans;
            case 5:
                return grid.deadCells();
            default:
                return grid.fullRows();
        }
    }

    public int symbol(int row, int column) throws IndexOutOfBoundsException {
        checkCell(row, column);
        return grid.cells[row * SIDE + column];
    }

    public boolean isGiven(int row, int column) throws IndexOutOfBoundsException {
        checkCell(row, column);
        return grid.given[row * SIDE + column];
    }

    public int candidates(int row, int column) throws IndexOutOfBoundsException {
        checkCell(row, column);
        return grid.candidateBits(row, column);
    }

    public int forcedCells() {
        return forces.count();
    }

    public int forced(int k, int what) throws IllegalArgumentException {
        checkProperty(what, 3);
        int cell = forces.cellByPlace(k);
        if (cell == NONE) {
            return NONE;
        }
        int row = cell / SIDE;
        int column = cell % SIDE;
        switch (what) {
            case 0:
                return row;
            case 1:
                return column;
            case 2:
                return forces.symbolFor(row, column);
            default:
                return forces.reasonFor(row, column);
        }
    }

    public int emptyCell(int k, int what) throws IllegalArgumentException {
        checkProperty(what, 2);
        int cell = emptyByPlace(k);
        if (cell == NONE) {
            return NONE;
        }
        int row = cell / SIDE;
        int column = cell % SIDE;
        switch (what) {
            case 0:
                return row;
            case 1:
                return column;
            default:
                return Integer.bitCount(grid.candidateBits(row, column));
        }
    }

    public int uses(int symbol) {
        return grid.usesOf(symbol);
    }

    public int symbolByUse(int k) {
        if (k < 0 || k >= grid.columns) {
            return NONE;
        }
        int ahead = k;
        for (int number = grid.rows; number >= 0; number--) {
            for (int symbol = 0; symbol < grid.columns; symbol++) {
                if (grid.usesOf(symbol) == number) {
                    if (ahead == 0) {
                        return symbol;
                    }
                    ahead--;
                }
            }
        }
        return NONE;
    }

    public int completions(int limit) throws IllegalArgumentException {
        if (limit < 1 || limit > MOST_COMPLETIONS) {
            throw new IllegalArgumentException("no such limit");
        }
        return search.count(limit);
    }

    public int completed(int row, int column) throws IndexOutOfBoundsException {
        checkCell(row, column);
        return search.firstSymbol(row, column);
    }

    public int possible(int row, int column) throws IndexOutOfBoundsException {
        checkCell(row, column);
        return search.possibleBits(row, column);
    }

    public int transversals() {
        return choices.count(NONE, NONE);
    }

    public int transversalsThrough(int row, int column) throws IndexOutOfBoundsException {
        checkCell(row, column);
        return choices.count(row, column);
    }

    public int firstTransversal(int row) throws IndexOutOfBoundsException {
        checkRow(row);
        return choices.firstColumn(row);
    }

    public int longestTransversal() {
        return choices.longest();
    }

    public int cycle(int a, int b, int column) throws IndexOutOfBoundsException, IllegalArgumentException, IllegalStateException {
        checkCycle(a, b, column);
        return Integer.bitCount(cycles.columnBits(a, b, column));
    }

    public int cycleBySize(int k, int what) throws IllegalArgumentException {
        checkProperty(what, 3);
        return cycles.property(k, what);
    }

    public int intercalates() {
        return cycles.countIntercalates();
    }

    public int tradeSize(int slot) throws IndexOutOfBoundsException, IllegalStateException {
        checkSavedSlot(slot);
        return snapshots.countChanged(slot, grid);
    }

    public boolean isTrade(int slot) throws IndexOutOfBoundsException, IllegalStateException {
        checkSavedSlot(slot);
        return snapshots.differsByTrade(slot, grid);
    }

    public int fill(int row, int column, int symbol) throws IndexOutOfBoundsException, IllegalArgumentException, IllegalStateException {
        checkCell(row, column);
        if (symbol < 0 || symbol >= grid.columns) {
            throw new IllegalArgumentException("no such symbol");
        }
        if ((grid.candidateBits(row, column) >> symbol & 1) == 0) {
            throw new IllegalStateException("not a candidate");
        }
        history.record(grid);
        grid.put(row, column, symbol);
        return grid.rows * grid.columns - grid.filled;
    }

    public int empty(int row, int column) throws IndexOutOfBoundsException, IllegalStateException {
        checkCell(row, column);
        int cell = row * SIDE + column;
        int had = grid.cells[cell];
        if (had == NONE || grid.given[cell]) {
            throw new IllegalStateException("empty or given");
        }
        history.record(grid);
        grid.take(row, column);
        return had;
    }

    public int propagate() {
        history.record(grid);
        int before = grid.filled;
        for (int n = 0; n < CELLS; n++) {
            int cell = forces.cellByPlace(0);
            if (cell == NONE) {
                break;
            }
            int row = cell / SIDE;
            int column = cell % SIDE;
            grid.put(row, column, forces.symbolFor(row, column));
        }
        return grid.filled - before;
    }

    public int fillRow(int row) throws IndexOutOfBoundsException, IllegalStateException {
        checkRow(row);
        if (!planRow(grid, row, 0, 0, plan)) {
            throw new IllegalStateException("no way to fill the row");
        }
        history.record(grid);
        int before = grid.filled;
        for (int column = 0; column < grid.columns; column++) {
            if (grid.cells[row * SIDE + column] == NONE) {
                grid.put(row, column, plan[column]);
            }
        }
        return grid.filled - before;
    }

    public int switchCycle(int a, int b, int column) throws IndexOutOfBoundsException, IllegalArgumentException, IllegalStateException {
        checkCycle(a, b, column);
        int bits = cycles.columnBits(a, b, column);
        if (!cycles.canSwitch(a, b, bits)) {
            throw new IllegalStateException("a given cell or a forbidden symbol");
        }
        history.record(grid);
        cycles.exchange(a, b, bits);
        return Integer.bitCount(bits);
    }

    public int undo() {
        return history.stepBack(grid);
    }

    public boolean saveSnapshot(int slot) throws IndexOutOfBoundsException {
        checkSlot(slot);
        return snapshots.save(slot, grid);
    }

    public int restoreSnapshot(int slot) throws IndexOutOfBoundsException, IllegalStateException {
        checkSavedSlot(slot);
        grid.load(snapshots.fillings[slot]);
        history.clear();
        return grid.filled;
    }

    private void checkRow(int row) {
        if (row < 0 || row >= grid.rows) {
            throw new IndexOutOfBoundsException("no such row");
        }
    }

    private void checkCell(int row, int column) {
        checkRow(row);
        if (column < 0 || column >= grid.columns) {
            throw new IndexOutOfBoundsException("no such column");
        }
    }

    private void checkCycle(int a, int b, int column) {
        checkRow(a);
        checkCell(b, column);
        if (a == b) {
            throw new IllegalArgumentException("twice the same row");
        }
        if (!grid.isFullRow(a) || !grid.isFullRow(b)) {
            throw new IllegalStateException("a row is not full");
        }
    }

    private void checkSlot(int slot) {
        if (slot < 0 || slot >= SLOTS) {
            throw new IndexOutOfBoundsException("no such slot");
        }
    }

    private void checkSavedSlot(int slot) {
        checkSlot(slot);
        if (!snapshots.saved[slot]) {
            throw new IllegalStateException("the slot is empty");
        }
    }

    private static void checkProperty(int what, int last) {
        if (what < 0 || what > last) {
            throw new IllegalArgumentException("no such property");
        }
    }

    /** The cell at place k when the empty cells are ordered by the number of their candidates. */
    private int emptyByPlace(int k) {
        int ahead = k;
        for (int number = 0; number <= grid.columns && ahead >= 0; number++) {
            for (int row = 0; row < grid.rows; row++) {
                for (int column = 0; column < grid.columns; column++) {
                    int cell = row * SIDE + column;
                    if (grid.cells[cell] == NONE && Integer.bitCount(grid.candidateBits(row, column)) == number) {
                        if (ahead == 0) {
                            return cell;
                        }
                        ahead--;
                    }
                }
            }
        }
        return NONE;
    }

    /** Plans the empty cells of a row from a column on; planned holds the symbols that are planned ahead of it. */
    private static boolean planRow(Grid grid, int row, int column, int planned, int[] plan) {
        if (column >= grid.columns) {
            return true;
        }
        if (grid.cells[row * SIDE + column] != NONE) {
            return planRow(grid, row, column + 1, planned, plan);
        }
        int free = grid.candidateBits(row, column) & ~planned;
        for (int symbol = 0; symbol < grid.columns; symbol++) {
            if ((free >> symbol & 1) != 0) {
                plan[column] = symbol;
                if (planRow(grid, row, column + 1, planned | 1 << symbol, plan)) {
                    return true;
                }
            }
        }
        return false;
    }

    /** The cells with what is filled in, given and forbidden; cell row * SIDE + column, whatever the size. */
    private static final class Grid {
        final int[] cells = new int[CELLS];
        final boolean[] given = new boolean[CELLS];
        final int[] banned = new int[CELLS];
        final int[] rowUsed = new int[SIDE];
        final int[] columnUsed = new int[SIDE];
        int rows;
        int columns;
        int filled;
        int givens;
        int bans;

        Grid() {
            begin(LEAST_COLUMNS, LEAST_COLUMNS);
        }

        void begin(int newRows, int newColumns) {
            rows = newRows;
            columns = newColumns;
            givens = 0;
            bans = 0;
            for (int cell = 0; cell < CELLS; cell++) {
                given[cell] = false;
                banned[cell] = 0;
            }
            clearCells();
        }

        void clearCells() {
            filled = 0;
            for (int cell = 0; cell < CELLS; cell++) {
                cells[cell] = NONE;
            }
            for (int line = 0; line < SIDE; line++) {
                rowUsed[line] = 0;
                columnUsed[line] = 0;
            }
        }

        void copyFrom(Grid other) {
            rows = other.rows;
            columns = other.columns;
            givens = other.givens;
            bans = other.bans;
            for (int cell = 0; cell < CELLS; cell++) {
                given[cell] = other.given[cell];
                banned[cell] = other.banned[cell];
            }
            load(other.cells);
        }

        void load(int[] filling) {
            clearCells();
            for (int row = 0; row < rows; row++) {
                for (int column = 0; column < columns; column++) {
                    int symbol = filling[row * SIDE + column];
                    if (symbol != NONE) {
                        put(row, column, symbol);
                    }
                }
            }
        }

        void store(int[] filling) {
            for (int cell = 0; cell < CELLS; cell++) {
                filling[cell] = cells[cell];
            }
        }

        void put(int row, int column, int symbol) {
            cells[row * SIDE + column] = symbol;
            rowUsed[row] |= 1 << symbol;
            columnUsed[column] |= 1 << symbol;
            filled++;
        }

        void take(int row, int column) {
            int symbol = cells[row * SIDE + column];
            cells[row * SIDE + column] = NONE;
            rowUsed[row] &= ~(1 << symbol);
            columnUsed[column] &= ~(1 << symbol);
            filled--;
        }

        void give(int row, int column, int symbol) {
            put(row, column, symbol);
            given[row * SIDE + column] = true;
            givens++;
        }

        void forbid(int cell, int symbol) {
            banned[cell] |= 1 << symbol;
            bans++;
        }

        boolean isForbidden(int cell, int symbol) {
            return (banned[cell] >> symbol & 1) != 0;
        }

        int candidateBits(int row, int column) {
            int cell = row * SIDE + column;
            if (cells[cell] != NONE) {
                return 0;
            }
            return (1 << columns) - 1 & ~(rowUsed[row] | columnUsed[column] | banned[cell]);
        }

        boolean isFullRow(int row) {
            return rowUsed[row] == (1 << columns) - 1;
        }

        int fullRows() {
            int number = 0;
            for (int row = 0; row < rows; row++) {
                if (isFullRow(row)) {
                    number++;
                }
            }
            return number;
        }

        int deadCells() {
            int number = 0;
            for (int row = 0; row < rows; row++) {
                for (int column = 0; column < columns; column++) {
                    if (cells[row * SIDE + column] == NONE && candidateBits(row, column) == 0) {
                        number++;
                    }
                }
            }
            return number;
        }

        int usesOf(int symbol) {
            // empty cells hold NONE, which is no symbol to count
            if (symbol < 0) {
                return 0;
            }
            int number = 0;
            for (int row = 0; row < rows; row++) {
                for (int column = 0; column < columns; column++) {
                    if (cells[row * SIDE + column] == symbol) {
                        number++;
                    }
                }
            }
            return number;
        }
    }

    /** The input buffer, read token by token. */
    private static final class Text {
        static final int END = 0;
        static final int INVALID = 1;
        static final int WORD = 2;
        static final int NUMBER = 3;
        static final int SEMICOLON = 4;
        static final int MOST_LETTERS = 9;
        static final int MOST_DIGITS = 2;

        final byte[] bytes = new byte[MOST_BYTES];
        int length;
        int end;
        int next;
        int kind;
        int start;
        int value;

        /** Adds four bytes, the most significant first. */
        void add(int four) {
            for (int shift = 24; shift >= 0; shift -= 8) {
                if (length < MOST_BYTES) {
                    bytes[length] = (byte) (four >>> shift);
                    length++;
                }
            }
        }

        void open(int textLength) {
            end = Math.min(textLength, length);
            next = 0;
            start = 0;
            kind = END;
            value = 0;
        }

        void advance() {
            while (next < end && (bytes[next] == ' ' || bytes[next] == '\n')) {
                next++;
            }
            start = next;
            if (start >= end) {
                kind = END;
                return;
            }
            int first = bytes[start];
            if (first >= 'a' && first <= 'z') {
                next = runEnd('a', 'z');
                kind = next - start <= MOST_LETTERS ? WORD : INVALID;
            } else if (first >= '0' && first <= '9') {
                next = runEnd('0', '9');
                kind = next - start <= MOST_DIGITS ? NUMBER : INVALID;
                readValue();
            } else {
                next = start + 1;
                kind = first == ';' ? SEMICOLON : INVALID;
            }
        }

        private int runEnd(int low, int high) {
            int at = start;
            while (at < end && bytes[at] >= low && bytes[at] <= high) {
                at++;
            }
            return at;
        }

        private void readValue() {
            value = 0;
            for (int at = start; kind == NUMBER && at < next; at++) {
                value = value * 10 + bytes[at] - '0';
            }
        }

        boolean isWord(String word) {
            if (kind != WORD || next - start != word.length()) {
                return false;
            }
            for (int i = 0; i < word.length(); i++) {
                if (bytes[start + i] != word.charAt(i)) {
                    return false;
                }
            }
            return true;
        }
    }

    /** Reads a rectangle text into a draft, up to the first error. */
    private static final class Parser {
        static final int SYNTAX = 1;
        static final int CLASH = 2;
        static final int RANGE = 3;
        static final int BANS = 4;

        final Text text;
        final Grid draft = new Grid();
        int code;
        int position;

        Parser(Text text) {
            this.text = text;
        }

        boolean read(int length) {
            code = 0;
            position = NONE;
            text.open(length);
            if (!readHeader()) {
                return false;
            }
            // a statement takes more than one byte, so there are fewer of them than bytes
            for (int n = 0; n <= MOST_BYTES; n++) {
                text.advance();
                if (text.kind == Text.END) {
                    return true;
                }
                if (!readStatement()) {
                    return false;
                }
            }
            return fail(SYNTAX);
        }

        private boolean fail(int errorCode) {
            code = errorCode;
            position = text.start;
            return false;
        }

        private boolean readHeader() {
            text.advance();
            if (!text.isWord("rectangle")) {
                return fail(SYNTAX);
            }
            if (!readNumberWithin(1, SIDE)) {
                return false;
            }
            int rows = text.value;
            if (!readNumberWithin(Math.max(LEAST_COLUMNS, rows), SIDE)) {
                return false;
            }
            draft.begin(rows, text.value);
            return readSemicolon();
        }

        private boolean readStatement() {
            boolean ban = text.isWord("ban");
            if (!ban && !text.isWord("given")) {
                return fail(SYNTAX);
            }
            if (ban && draft.bans >= MOST_BANS) {
                return fail(BANS);
            }
            if (!readNumberWithin(0, draft.rows - 1)) {
                return false;
            }
            int row = text.value;
            if (!readNumberWithin(0, draft.columns - 1)) {
                return false;
            }
            int column = text.value;
            if (!(ban ? readBan(row, column) : readGiven(row, column))) {
                return false;
            }
            return readSemicolon();
        }

        private boolean readGiven(int row, int column) {
            if (!readNumber()) {
                return false;
            }
            // a filled cell is the lower code, even for a symbol that is out of its range
            if (draft.cells[row * SIDE + column] != NONE) {
                return fail(CLASH);
            }
            if (text.value >= draft.columns) {
                return fail(RANGE);
            }
            if ((draft.candidateBits(row, column) >> text.value & 1) == 0) {
                return fail(CLASH);
            }
            draft.give(row, column, text.value);
            return true;
        }

        private boolean readBan(int row, int column) {
            if (!readNumberWithin(0, draft.columns - 1)) {
                return false;
            }
            int cell = row * SIDE + column;
            if (draft.isForbidden(cell, text.value) || draft.cells[cell] == text.value) {
                return fail(CLASH);
            }
            draft.forbid(cell, text.value);
            return true;
        }

        private boolean readNumber() {
            text.advance();
            return text.kind == Text.NUMBER || fail(SYNTAX);
        }

        private boolean readNumberWithin(int least, int most) {
            text.advance();
            if (text.kind != Text.NUMBER) {
                return fail(SYNTAX);
            }
            return text.value >= least && text.value <= most || fail(RANGE);
        }

        private boolean readSemicolon() {
            text.advance();
            return text.kind == Text.SEMICOLON || fail(SYNTAX);
        }
    }

    /** Which empty cells are forced, to what and why. */
    private static final class Forces {
        static final int LAST_REASON = 3;

        final Grid grid;

        Forces(Grid grid) {
            this.grid = grid;
        }

        int count() {
            int number = 0;
            for (int row = 0; row < grid.rows; row++) {
                for (int column = 0; column < grid.columns; column++) {
                    if (reasonFor(row, column) != 0) {
                        number++;
                    }
                }
            }
            return number;
        }

        int cellByPlace(int k) {
            int ahead = k;
            for (int row = 0; row < grid.rows; row++) {
                for (int column = 0; column < grid.columns; column++) {
                    if (reasonFor(row, column) != 0) {
                        if (ahead == 0) {
                            return row * SIDE + column;
                        }
                        ahead--;
                    }
                }
            }
            return NONE;
        }

        /** The first reason that applies to a cell; 0 if it is not forced. */
        int reasonFor(int row, int column) {
            for (int reason = 1; reason <= LAST_REASON; reason++) {
                if (bitsByReason(row, column, reason) != 0) {
                    return reason;
                }
            }
            return 0;
        }

        int symbolFor(int row, int column) {
            int bits = bitsByReason(row, column, reasonFor(row, column));
            for (int symbol = 0; symbol < grid.columns; symbol++) {
                if ((bits >> symbol & 1) != 0) {
                    return symbol;
                }
            }
            return NONE;
        }

        private int bitsByReason(int row, int column, int reason) {
            int own = grid.candidateBits(row, column);
            if (reason == 1) {
                return Integer.bitCount(own) == 1 ? own : 0;
            }
            if (reason == 2) {
                return own & ~elsewhereInRow(row, column);
            }
            return grid.rows == grid.columns ? own & ~elsewhereInColumn(row, column) : 0;
        }

        private int elsewhereInRow(int row, int column) {
            int bits = 0;
            for (int other = 0; other < grid.columns; other++) {
                if (other != column) {
                    bits |= grid.candidateBits(row, other);
                }
            }
            return bits;
        }

        private int elsewhereInColumn(int row, int column) {
            int bits = 0;
            for (int other = 0; other < grid.rows; other++) {
                if (other != row) {
                    bits |= grid.candidateBits(other, column);
                }
            }
            return bits;
        }
    }

    /** Searches completions in a copy of the cells. */
    private static final class Completions {
        final Grid grid;
        final Grid work = new Grid();
        final int[] open = new int[CELLS];
        int openCount;

        Completions(Grid grid) {
            this.grid = grid;
        }

        int count(int limit) {
            work.copyFrom(grid);
            return countInWork(limit);
        }

        /** The symbol of a cell in the first completion: each cell ahead gets the lowest symbol that leaves one. */
        int firstSymbol(int row, int column) {
            work.copyFrom(grid);
            if (countInWork(1) == 0) {
                return NONE;
            }
            int last = row * SIDE + column;
            for (int cell = 0; cell <= last; cell++) {
                if (cell % SIDE < work.columns && work.cells[cell] == NONE) {
                    putLowest(cell / SIDE, cell % SIDE);
                }
            }
            return work.cells[last];
        }

        int possibleBits(int row, int column) {
            work.copyFrom(grid);
            int had = work.cells[row * SIDE + column];
            if (had != NONE) {
                return countInWork(1) == 0 ? 0 : 1 << had;
            }
            int bits = 0;
            int candidates = work.candidateBits(row, column);
            for (int symbol = 0; symbol < work.columns; symbol++) {
                if ((candidates >> symbol & 1) != 0) {
                    work.put(row, column, symbol);
                    if (countInWork(1) != 0) {
                        bits |= 1 << symbol;
                    }
                    work.take(row, column);
                }
            }
            return bits;
        }

        private void putLowest(int row, int column) {
            int candidates = work.candidateBits(row, column);
            for (int symbol = 0; symbol < work.columns; symbol++) {
                if ((candidates >> symbol & 1) != 0) {
                    work.put(row, column, symbol);
                    if (countInWork(1) != 0) {
                        return;
                    }
                    work.take(row, column);
                }
            }
        }

        private int countInWork(int limit) {
            openCount = 0;
            for (int row = 0; row < work.rows; row++) {
                for (int column = 0; column < work.columns; column++) {
                    if (work.cells[row * SIDE + column] == NONE) {
                        open[openCount] = row * SIDE + column;
                        openCount++;
                    }
                }
            }
            return countFrom(this, 0, limit);
        }

        /** Counts the ways to fill the open cells from a place on; those ahead of it are filled. */
        private static int countFrom(Completions search, int depth, int limit) {
            if (depth >= search.openCount) {
                return 1;
            }
            int cell = search.bringTightest(depth);
            int row = cell / SIDE;
            int column = cell % SIDE;
            int candidates = search.work.candidateBits(row, column);
            int found = 0;
            for (int symbol = 0; symbol < search.work.columns && found < limit; symbol++) {
                if ((candidates >> symbol & 1) != 0) {
                    search.work.put(row, column, symbol);
                    found += countFrom(search, depth + 1, limit - found);
                    search.work.take(row, column);
                }
            }
            return found;
        }

        /** Brings the open cell with the fewest candidates to a place, as it shows a dead end soonest. */
        private int bringTightest(int place) {
            int best = place;
            int fewest = SIDE + 1;
            for (int i = place; i < openCount && fewest > 1; i++) {
                int number = Integer.bitCount(work.candidateBits(open[i] / SIDE, open[i] % SIDE));
                if (number < fewest) {
                    fewest = number;
                    best = i;
                }
            }
            int cell = open[best];
            open[best] = open[place];
            open[place] = cell;
            return cell;
        }
    }

    /** Choices of filled cells, one of a row, with no column and no symbol twice. */
    private static final class Transversals {
        final Grid grid;
        final int[] chosen = new int[SIDE];
        int fixedRow;
        int fixedColumn;

        Transversals(Grid grid) {
            this.grid = grid;
        }

        /** Counts the transversals through a cell; all of them if its row is NONE. */
        int count(int row, int column) {
            fixedRow = row;
            fixedColumn = column;
            return countFrom(this, 0, 0, 0);
        }

        int firstColumn(int row) {
            return chooseFrom(this, 0, 0, 0) ? chosen[row] : NONE;
        }

        int longest() {
            return longestFrom(this, 0, 0, 0);
        }

        private static int countFrom(Transversals t, int row, int columnsUsed, int symbolsUsed) {
            if (row >= t.grid.rows) {
                return 1;
            }
            int number = 0;
            for (int column = 0; column < t.grid.columns; column++) {
                boolean wanted = row != t.fixedRow || column == t.fixedColumn;
                if (wanted && t.isFree(row, column, columnsUsed, symbolsUsed)) {
                    number += countFrom(t, row + 1, columnsUsed | 1 << column, symbolsUsed | t.symbolBit(row, column));
                }
            }
            return number;
        }

        private static boolean chooseFrom(Transversals t, int row, int columnsUsed, int symbolsUsed) {
            if (row >= t.grid.rows) {
                return true;
            }
            for (int column = 0; column < t.grid.columns; column++) {
                if (t.isFree(row, column, columnsUsed, symbolsUsed)) {
                    t.chosen[row] = column;
                    if (chooseFrom(t, row + 1, columnsUsed | 1 << column, symbolsUsed | t.symbolBit(row, column))) {
                        return true;
                    }
                }
            }
            return false;
        }

        private static int longestFrom(Transversals t, int row, int columnsUsed, int symbolsUsed) {
            if (row >= t.grid.rows) {
                return 0;
            }
            int most = longestFrom(t, row + 1, columnsUsed, symbolsUsed);
            for (int column = 0; column < t.grid.columns; column++) {
                if (t.isFree(row, column, columnsUsed, symbolsUsed)) {
                    int rest = longestFrom(t, row + 1, columnsUsed | 1 << column, symbolsUsed | t.symbolBit(row, column));
                    most = Math.max(most, 1 + rest);
                }
            }
            return most;
        }

        private boolean isFree(int row, int column, int columnsUsed, int symbolsUsed) {
            int bit = symbolBit(row, column);
            return bit != 0 && (columnsUsed >> column & 1) == 0 && (symbolsUsed & bit) == 0;
        }

        private int symbolBit(int row, int column) {
            int symbol = grid.cells[row * SIDE + column];
            return symbol == NONE ? 0 : 1 << symbol;
        }
    }

    /** The cycles of pairs of full rows, each as the bits of its columns. */
    private static final class Cycles {
        final Grid grid;
        /** Cycles in their order, each as the digits size, a, b, beginning, so that numbers are ordered as they are. */
        final int[] ordered = new int[MOST_CYCLES];
        int count;

        Cycles(Grid grid) {
            this.grid = grid;
        }

        /** The columns of a cycle; both rows are full. */
        int columnBits(int a, int b, int column) {
            int bits = 0;
            int at = column;
            for (int n = 0; n < grid.columns && at != NONE; n++) {
                bits |= 1 << at;
                at = columnWith(a, grid.cells[b * SIDE + at]);
            }
            return bits;
        }

        private int columnWith(int row, int symbol) {
            for (int column = 0; column < grid.columns; column++) {
                if (grid.cells[row * SIDE + column] == symbol) {
                    return column;
                }
            }
            return NONE;
        }

        int property(int k, int what) {
            collect();
            if (k < 0 || k >= count) {
                return NONE;
            }
            int digits = ordered[k];
            switch (what) {
                case 0:
                    return digits / 1000;
                case 1:
                    return digits / 100 % 10;
                case 2:
                    return digits / 10 % 10;
                default:
                    return digits % 10;
            }
        }

        private void collect() {
            count = 0;
            for (int a = 0; a < grid.rows; a++) {
                for (int b = a + 1; b < grid.rows; b++) {
                    if (grid.isFullRow(a) && grid.isFullRow(b)) {
                        collectPair(a, b);
                    }
                }
            }
        }

        private void collectPair(int a, int b) {
            int seen = 0;
            for (int column = 0; column < grid.columns; column++) {
                if ((seen >> column & 1) == 0) {
                    int bits = columnBits(a, b, column);
                    seen |= bits;
                    insert(Integer.bitCount(bits) * 1000 + a * 100 + b * 10 + column);
                }
            }
        }

        private void insert(int digits) {
            if (count >= MOST_CYCLES) {
                return;
            }
            int place = count;
            while (place > 0 && ordered[place - 1] > digits) {
                ordered[place] = ordered[place - 1];
                place--;
            }
            ordered[place] = digits;
            count++;
        }

        boolean canSwitch(int a, int b, int bits) {
            for (int column = 0; column < grid.columns; column++) {
                if ((bits >> column & 1) != 0) {
                    int upper = a * SIDE + column;
                    int lower = b * SIDE + column;
                    if (grid.given[upper] || grid.given[lower]) {
                        return false;
                    }
                    if (grid.isForbidden(upper, grid.cells[lower]) || grid.isForbidden(lower, grid.cells[upper])) {
                        return false;
                    }
                }
            }
            return true;
        }

        /** Rows and columns keep their sets of symbols, so nothing but the cells changes. */
        void exchange(int a, int b, int bits) {
            for (int column = 0; column < grid.columns; column++) {
                if ((bits >> column & 1) != 0) {
                    int upper = grid.cells[a * SIDE + column];
                    grid.cells[a * SIDE + column] = grid.cells[b * SIDE + column];
                    grid.cells[b * SIDE + column] = upper;
                }
            }
        }

        int countIntercalates() {
            int number = 0;
            for (int a = 0; a < grid.rows; a++) {
                for (int b = a + 1; b < grid.rows; b++) {
                    for (int c = 0; c < grid.columns; c++) {
                        for (int d = c + 1; d < grid.columns; d++) {
                            if (isIntercalate(a, b, c, d)) {
                                number++;
                            }
                        }
                    }
                }
            }
            return number;
        }

        private boolean isIntercalate(int a, int b, int c, int d) {
            int first = grid.cells[a * SIDE + c];
            int second = grid.cells[a * SIDE + d];
            return first != NONE && second != NONE
                && first == grid.cells[b * SIDE + d] && second == grid.cells[b * SIDE + c];
        }
    }

    /** The fillings ahead of the latest changes, in a ring. */
    private static final class History {
        final int[][] fillings = new int[MOST_UNDOS][CELLS];
        int next;
        int count;

        void clear() {
            next = 0;
            count = 0;
        }

        void record(Grid grid) {
            grid.store(fillings[next]);
            next = (next + 1) % MOST_UNDOS;
            count = Math.min(count + 1, MOST_UNDOS);
        }

        int stepBack(Grid grid) {
            if (count == 0) {
                return NONE;
            }
            next = (next + MOST_UNDOS - 1) % MOST_UNDOS;
            count--;
            grid.load(fillings[next]);
            return count;
        }
    }

    /** The snapshot slots, and what has changed since. */
    private static final class Snapshots {
        final int[][] fillings = new int[SLOTS][CELLS];
        final boolean[] saved = new boolean[SLOTS];

        void clear() {
            for (int slot = 0; slot < SLOTS; slot++) {
                saved[slot] = false;
            }
        }

        boolean save(int slot, Grid grid) {
            boolean earlier = saved[slot];
            grid.store(fillings[slot]);
            saved[slot] = true;
            return earlier;
        }

        int countChanged(int slot, Grid grid) {
            int number = 0;
            for (int cell = 0; cell < CELLS; cell++) {
                if (grid.cells[cell] != fillings[slot][cell]) {
                    number++;
                }
            }
            return number;
        }

        boolean differsByTrade(int slot, Grid grid) {
            if (countChanged(slot, grid) == 0) {
                return false;
            }
            int[] there = fillings[slot];
            for (int cell = 0; cell < CELLS; cell++) {
                if (grid.cells[cell] != there[cell] && (grid.cells[cell] == NONE || there[cell] == NONE)) {
                    return false;
                }
            }
            for (int line = 0; line < SIDE; line++) {
                if (changedBits(grid.cells, there, line * SIDE, 1) != changedBits(there, grid.cells, line * SIDE, 1)
                    || changedBits(grid.cells, there, line, SIDE) != changedBits(there, grid.cells, line, SIDE)) {
                    return false;
                }
            }
            return true;
        }

        /** The symbols that a line of one filling has in cells that are not so in another; all these are filled. */
        private static int changedBits(int[] one, int[] other, int first, int step) {
            int bits = 0;
            for (int n = 0; n < SIDE; n++) {
                int cell = first + n * step;
                if (one[cell] != other[cell]) {
                    bits |= 1 << one[cell];
                }
            }
            return bits;
        }
    }
}
