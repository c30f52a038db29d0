import java.nio.charset.StandardCharsets;
import java.util.ArrayDeque;
import java.util.ArrayList;
import java.util.Arrays;
import java.util.Comparator;
import java.util.Deque;
import java.util.HashSet;
import java.util.List;
import java.util.Set;
import java.util.TreeSet;
import java.util.regex.Matcher;
import java.util.regex.Pattern;

/** The document written a second time, as plainly as the Java library lets it be: what LatinRectangles is held against. */
public final class Model {
    private static final int NONE = -1;

    /** What a text says, or where it is wrong. */
    private static final class Reading {
        int code;
        int position = NONE;
        int rows;
        int columns;
        Integer[][] cells;
        final Set<List<Integer>> bans = new HashSet<>();
    }

    private static final class Token {
        final String text;
        final int position;

        Token(String text, int position) {
            this.text = text;
            this.position = position;
        }

        boolean isNumber() {
            return text.matches("[0-9]{1,2}");
        }

        int number() {
            return Integer.parseInt(text);
        }
    }

    private StringBuilder buffer = new StringBuilder();
    private int errorAt = NONE;
    private int rows = 2;
    private int columns = 2;
    private Integer[][] cells = new Integer[2][2];
    private Integer[][] givens = new Integer[2][2];
    private Set<List<Integer>> bans = new HashSet<>();
    private final Deque<Integer[][]> history = new ArrayDeque<>();
    private final Integer[][][] slots = new Integer[2][][];

    public int append(int a, int b, int c, int d, int e) {
        if (buffer.length() > 480) {
            return NONE;
        }
        for (int four : new int[] {a, b, c, d, e}) {
            byte[] bytes = java.nio.ByteBuffer.allocate(4).putInt(four).array();
            buffer.append(new String(bytes, StandardCharsets.ISO_8859_1));
        }
        return buffer.length();
    }

    public int parse(int length) {
        if (length < 0 || length > buffer.length()) {
            throw new IllegalArgumentException();
        }
        Reading reading = read(buffer.substring(0, length));
        buffer = new StringBuilder();
        errorAt = reading.position;
        if (reading.code == 0) {
            rows = reading.rows;
            columns = reading.columns;
            givens = reading.cells;
            cells = copy(givens);
            bans = reading.bans;
            history.clear();
            Arrays.fill(slots, null);
        }
        return reading.code;
    }

    private static Reading read(String text) {
        List<Token> tokens = new ArrayList<>();
        Matcher matcher = Pattern.compile("[a-z]+|[0-9]+|[ \n]+|.", Pattern.DOTALL).matcher(text);
        while (matcher.find()) {
            if (!matcher.group().isBlank() || !matcher.group().matches("[ \n]+")) {
                tokens.add(new Token(matcher.group(), matcher.start()));
            }
        }
        tokens.add(new Token("", text.length()));
        Reading reading = new Reading();
        int at = 0;
        String[] form = {"rectangle", "rows", "columns", ";"};
        for (String item : form) {
            Token token = tokens.get(at++);
            if (!fits(token, item)) {
                return error(reading, 1, token);
            }
            if (item.equals("rows")) {
                reading.rows = token.number();
                if (reading.rows < 1 || reading.rows > 5) {
                    return error(reading, 3, token);
                }
            }
            if (item.equals("columns")) {
                reading.columns = token.number();
                if (reading.columns < 2 || reading.columns > 5 || reading.columns < reading.rows) {
                    return error(reading, 3, token);
                }
            }
        }
        reading.cells = new Integer[reading.rows][reading.columns];
        while (at < tokens.size() - 1) {
            at = statement(reading, tokens, at);
            if (reading.code != 0) {
                return reading;
            }
        }
        return reading;
    }

    private static boolean fits(Token token, String item) {
        return item.equals("rectangle") || item.equals(";") ? token.text.equals(item) : token.isNumber();
    }

    private static Reading error(Reading reading, int code, Token token) {
        reading.code = code;
        reading.position = token.position;
        return reading;
    }

    private static int statement(Reading reading, List<Token> tokens, int from) {
        Token word = tokens.get(from);
        boolean ban = word.text.equals("ban");
        if (!ban && !word.text.equals("given")) {
            error(reading, 1, word);
            return from;
        }
        if (ban && reading.bans.size() == 20) {
            error(reading, 4, word);
            return from;
        }
        int[] number = new int[3];
        int[] most = {reading.rows, reading.columns, reading.columns};
        for (int i = 0; i < 3; i++) {
            Token token = tokens.get(from + 1 + i);
            if (!token.isNumber()) {
                error(reading, 1, token);
                return from;
            }
            number[i] = token.number();
            boolean clash = i == 2 && (ban ? clashOfBan(reading, number) : clashOfGiven(reading, number));
            if (clash || number[i] >= most[i]) {
                error(reading, clash ? 2 : 3, token);
                return from;
            }
        }
        if (ban) {
            reading.bans.add(List.of(number[0], number[1], number[2]));
        } else {
            reading.cells[number[0]][number[1]] = number[2];
        }
        if (!tokens.get(from + 4).text.equals(";")) {
            error(reading, 1, tokens.get(from + 4));
        }
        return from + 5;
    }

    private static boolean clashOfGiven(Reading reading, int[] n) {
        if (reading.cells[n[0]][n[1]] != null || reading.bans.contains(List.of(n[0], n[1], n[2]))) {
            return true;
        }
        return symbolsOfLines(reading.cells, n[0], n[1]).contains(n[2]);
    }

    private static boolean clashOfBan(Reading reading, int[] n) {
        Integer there = reading.cells[n[0]][n[1]];
        return reading.bans.contains(List.of(n[0], n[1], n[2])) || there != null && there == n[2];
    }

    private static Set<Integer> symbolsOfLines(Integer[][] cells, int row, int column) {
        Set<Integer> symbols = new TreeSet<>();
        for (int r = 0; r < cells.length; r++) {
            for (int c = 0; c < cells[r].length; c++) {
                if ((r == row || c == column) && cells[r][c] != null) {
                    symbols.add(cells[r][c]);
                }
            }
        }
        return symbols;
    }

    public int errorPosition() {
        return errorAt;
    }

    public int size(int what) {
        int dead = 0;
        for (int[] cell : emptyCells()) {
            dead += free(cell[0], cell[1]).isEmpty() ? 1 : 0;
        }
        int full = 0;
        for (int row = 0; row < rows; row++) {
            full += isFull(row) ? 1 : 0;
        }
        int given = 0;
        for (Integer[] row : givens) {
            for (Integer symbol : row) {
                given += symbol != null ? 1 : 0;
            }
        }
        return pick(what, rows, columns, rows * columns - emptyCells().size(), given, bans.size(), dead, full);
    }

    private static int pick(int what, int... properties) {
        property(what, properties.length);
        return properties[what];
    }

    private static void property(int what, int number) {
        if (what < 0 || what >= number) {
            throw new IllegalArgumentException();
        }
    }

    private boolean isFull(int row) {
        return !Arrays.asList(cells[row]).contains(null);
    }

    private List<int[]> emptyCells() {
        List<int[]> list = new ArrayList<>();
        for (int row = 0; row < rows; row++) {
            for (int column = 0; column < columns; column++) {
                if (cells[row][column] == null) {
                    list.add(new int[] {row, column});
                }
            }
        }
        return list;
    }

    private Set<Integer> free(int row, int column) {
        Set<Integer> symbols = new TreeSet<>();
        for (int symbol = 0; symbol < columns; symbol++) {
            if (cells[row][column] == null && !bans.contains(List.of(row, column, symbol))) {
                symbols.add(symbol);
            }
        }
        symbols.removeAll(symbolsOfLines(cells, row, column));
        return symbols;
    }

    private void row(int row) {
        if (row < 0 || row >= rows) {
            throw new IndexOutOfBoundsException();
        }
    }

    private void cell(int row, int column) {
        row(row);
        if (column < 0 || column >= columns) {
            throw new IndexOutOfBoundsException();
        }
    }

    public int symbol(int row, int column) {
        cell(row, column);
        return cells[row][column] == null ? NONE : cells[row][column];
    }

    public boolean isGiven(int row, int column) {
        cell(row, column);
        return givens[row][column] != null;
    }

    public int candidates(int row, int column) {
        cell(row, column);
        return bits(free(row, column));
    }

    private static int bits(Set<Integer> symbols) {
        int bits = 0;
        for (int symbol : symbols) {
            bits += 1 << symbol;
        }
        return bits;
    }

    /** Row, column, symbol and reason of each forced cell. */
    private List<int[]> allForced() {
        List<int[]> list = new ArrayList<>();
        for (int[] cell : emptyCells()) {
            Set<Integer> own = free(cell[0], cell[1]);
            Set<Integer> inRow = new TreeSet<>(own);
            Set<Integer> inColumn = new TreeSet<>(own);
            for (int[] other : emptyCells()) {
                if (other[0] == cell[0] && other[1] != cell[1]) {
                    inRow.removeAll(free(other[0], other[1]));
                }
                if (other[1] == cell[1] && other[0] != cell[0]) {
                    inColumn.removeAll(free(other[0], other[1]));
                }
            }
            if (own.size() == 1) {
                list.add(new int[] {cell[0], cell[1], own.iterator().next(), 1});
            } else if (!inRow.isEmpty()) {
                list.add(new int[] {cell[0], cell[1], inRow.iterator().next(), 2});
            } else if (!inColumn.isEmpty() && rows == columns) {
                list.add(new int[] {cell[0], cell[1], inColumn.iterator().next(), 3});
            }
        }
        return list;
    }

    public int forcedCells() {
        return allForced().size();
    }

    public int forced(int k, int what) {
        property(what, 4);
        return k < 0 || k >= allForced().size() ? NONE : allForced().get(k)[what];
    }

    public int emptyCell(int k, int what) {
        property(what, 3);
        List<int[]> list = new ArrayList<>();
        for (int[] cell : emptyCells()) {
            list.add(new int[] {cell[0], cell[1], free(cell[0], cell[1]).size()});
        }
        list.sort(Comparator.comparingInt(cell -> cell[2]));
        return k < 0 || k >= list.size() ? NONE : list.get(k)[what];
    }

    public int uses(int symbol) {
        int number = 0;
        for (Integer[] row : cells) {
            for (Integer there : row) {
                number += there != null && there == symbol ? 1 : 0;
            }
        }
        return number;
    }

    public int symbolByUse(int k) {
        List<Integer> list = new ArrayList<>();
        for (int symbol = 0; symbol < columns; symbol++) {
            list.add(symbol);
        }
        list.sort(Comparator.comparingInt(symbol -> -uses(symbol)));
        return k < 0 || k >= columns ? NONE : list.get(k);
    }

    public int completions(int limit) {
        if (limit < 1 || limit > 1000) {
            throw new IllegalArgumentException();
        }
        return complete(limit).size();
    }

    /** The first completions, at most a limit, in their order. */
    private List<Integer[][]> complete(int limit) {
        List<Integer[][]> found = new ArrayList<>();
        complete(emptyCells(), 0, limit, found);
        return found;
    }

    private void complete(List<int[]> open, int at, int limit, List<Integer[][]> found) {
        if (found.size() == limit) {
            return;
        }
        if (at == open.size()) {
            found.add(copy(cells));
            return;
        }
        int[] cell = open.get(at);
        for (int symbol : free(cell[0], cell[1])) {
            cells[cell[0]][cell[1]] = symbol;
            complete(open, at + 1, limit, found);
            cells[cell[0]][cell[1]] = null;
        }
    }

    public int completed(int row, int column) {
        cell(row, column);
        List<Integer[][]> found = complete(1);
        return found.isEmpty() ? NONE : found.get(0)[row][column];
    }

    public int possible(int row, int column) {
        cell(row, column);
        Integer had = cells[row][column];
        Set<Integer> tries = had != null ? Set.of(had) : free(row, column);
        Set<Integer> good = new TreeSet<>();
        for (int symbol : tries) {
            cells[row][column] = symbol;
            if (!complete(1).isEmpty()) {
                good.add(symbol);
            }
        }
        cells[row][column] = had;
        return bits(good);
    }

    /** Every choice of a column for each row, NONE for no cell, with no column and no symbol twice. */
    private List<int[]> choices(boolean whole) {
        List<int[]> list = new ArrayList<>();
        int all = 1;
        for (int row = 0; row < rows; row++) {
            all *= columns + 1;
        }
        for (int number = 0; number < all; number++) {
            int[] choice = new int[rows];
            int rest = number;
            for (int row = rows - 1; row >= 0; row--) {
                choice[row] = rest % (columns + 1) - 1;
                rest /= columns + 1;
            }
            if (isChoice(choice, whole)) {
                list.add(choice);
            }
        }
        return list;
    }

    private boolean isChoice(int[] choice, boolean whole) {
        Set<Integer> taken = new HashSet<>();
        Set<Integer> symbols = new HashSet<>();
        for (int row = 0; row < rows; row++) {
            if (choice[row] == NONE) {
                if (whole) {
                    return false;
                }
                continue;
            }
            Integer symbol = cells[row][choice[row]];
            if (symbol == null || !taken.add(choice[row]) || !symbols.add(symbol)) {
                return false;
            }
        }
        return true;
    }

    public int transversals() {
        return choices(true).size();
    }

    public int transversalsThrough(int row, int column) {
        cell(row, column);
        int number = 0;
        for (int[] choice : choices(true)) {
            number += choice[row] == column ? 1 : 0;
        }
        return number;
    }

    public int firstTransversal(int row) {
        row(row);
        List<int[]> list = choices(true);
        return list.isEmpty() ? NONE : list.get(0)[row];
    }

    public int longestTransversal() {
        int most = 0;
        for (int[] choice : choices(false)) {
            int length = 0;
            for (int column : choice) {
                length += column != NONE ? 1 : 0;
            }
            most = Math.max(most, length);
        }
        return most;
    }

    private List<Integer> columnsOfCycle(int a, int b, int column) {
        cell(a, column);
        cell(b, column);
        if (a == b) {
            throw new IllegalArgumentException();
        }
        if (!isFull(a) || !isFull(b)) {
            throw new IllegalStateException();
        }
        List<Integer> list = new ArrayList<>();
        int at = column;
        do {
            list.add(at);
            at = Arrays.asList(cells[a]).indexOf(cells[b][at]);
        } while (at != column);
        return list;
    }

    public int cycle(int a, int b, int column) {
        return columnsOfCycle(a, b, column).size();
    }

    public int cycleBySize(int k, int what) {
        property(what, 4);
        List<int[]> list = new ArrayList<>();
        for (int a = 0; a < rows; a++) {
            for (int b = a + 1; b < rows; b++) {
                for (int column = 0; column < columns && isFull(a) && isFull(b); column++) {
                    List<Integer> cycle = columnsOfCycle(a, b, column);
                    if (column == new TreeSet<>(cycle).first()) {
                        list.add(new int[] {cycle.size(), a, b, column});
                    }
                }
            }
        }
        list.sort(Comparator.comparingInt(cycle -> cycle[0]));
        return k < 0 || k >= list.size() ? NONE : list.get(k)[what];
    }

    public int intercalates() {
        int number = 0;
        for (int[] one : filledCells()) {
            for (int[] other : filledCells()) {
                if (other[0] > one[0] && other[1] != one[1]) {
                    Integer beside = cells[one[0]][other[1]];
                    boolean crossed = cells[one[0]][one[1]].equals(cells[other[0]][other[1]])
                        && beside != null && beside.equals(cells[other[0]][one[1]]);
                    number += crossed ? 1 : 0;
                }
            }
        }
        // each one is met from both of its upper cells
        return number / 2;
    }

    private List<int[]> filledCells() {
        List<int[]> list = new ArrayList<>();
        for (int row = 0; row < rows; row++) {
            for (int column = 0; column < columns; column++) {
                if (cells[row][column] != null) {
                    list.add(new int[] {row, column});
                }
            }
        }
        return list;
    }

    private Integer[][] stored(int slot) {
        if (slot < 0 || slot > 1) {
            throw new IndexOutOfBoundsException();
        }
        if (slots[slot] == null) {
            throw new IllegalStateException();
        }
        return slots[slot];
    }

    private List<int[]> changed(Integer[][] there) {
        List<int[]> list = new ArrayList<>();
        for (int row = 0; row < rows; row++) {
            for (int column = 0; column < columns; column++) {
                if (!java.util.Objects.equals(cells[row][column], there[row][column])) {
                    list.add(new int[] {row, column});
                }
            }
        }
        return list;
    }

    public int tradeSize(int slot) {
        return changed(stored(slot)).size();
    }

    public boolean isTrade(int slot) {
        Integer[][] there = stored(slot);
        Set<String> now = new TreeSet<>();
        Set<String> then = new TreeSet<>();
        for (int[] cell : changed(there)) {
            Integer symbolNow = cells[cell[0]][cell[1]];
            Integer symbolThen = there[cell[0]][cell[1]];
            if (symbolNow == null || symbolThen == null) {
                return false;
            }
            now.add("row " + cell[0] + " " + symbolNow);
            now.add("column " + cell[1] + " " + symbolNow);
            then.add("row " + cell[0] + " " + symbolThen);
            then.add("column " + cell[1] + " " + symbolThen);
        }
        return !now.isEmpty() && now.equals(then);
    }

    private static Integer[][] copy(Integer[][] from) {
        Integer[][] to = new Integer[from.length][];
        for (int row = 0; row < from.length; row++) {
            to[row] = from[row].clone();
        }
        return to;
    }

    private void change() {
        history.push(copy(cells));
        if (history.size() > 10) {
            history.removeLast();
        }
    }

    public int fill(int row, int column, int symbol) {
        cell(row, column);
        if (symbol < 0 || symbol >= columns) {
            throw new IllegalArgumentException();
        }
        if (!free(row, column).contains(symbol)) {
            throw new IllegalStateException();
        }
        change();
        cells[row][column] = symbol;
        return emptyCells().size();
    }

    public int empty(int row, int column) {
        cell(row, column);
        if (cells[row][column] == null || givens[row][column] != null) {
            throw new IllegalStateException();
        }
        change();
        int had = cells[row][column];
        cells[row][column] = null;
        return had;
    }

    public int propagate() {
        change();
        int number = 0;
        while (!allForced().isEmpty()) {
            int[] first = allForced().get(0);
            cells[first[0]][first[1]] = first[2];
            number++;
        }
        return number;
    }

    public int fillRow(int row) {
        row(row);
        List<int[]> open = emptyCells();
        open.removeIf(cell -> cell[0] != row);
        List<Integer[][]> found = new ArrayList<>();
        complete(open, 0, 1, found);
        if (found.isEmpty()) {
            throw new IllegalStateException();
        }
        change();
        cells = found.get(0);
        return open.size();
    }

    public int switchCycle(int a, int b, int column) {
        List<Integer> cycle = columnsOfCycle(a, b, column);
        for (int c : cycle) {
            if (givens[a][c] != null || givens[b][c] != null
                || bans.contains(List.of(a, c, cells[b][c])) || bans.contains(List.of(b, c, cells[a][c]))) {
                throw new IllegalStateException();
            }
        }
        change();
        for (int c : cycle) {
            Integer upper = cells[a][c];
            cells[a][c] = cells[b][c];
            cells[b][c] = upper;
        }
        return cycle.size();
    }

    public int undo() {
        if (history.isEmpty()) {
            return NONE;
        }
        cells = history.pop();
        return history.size();
    }

    public boolean saveSnapshot(int slot) {
        if (slot < 0 || slot > 1) {
            throw new IndexOutOfBoundsException();
        }
        boolean earlier = slots[slot] != null;
        slots[slot] = copy(cells);
        return earlier;
    }

    public int restoreSnapshot(int slot) {
        cells = copy(stored(slot));
        history.clear();
        return filledCells().size();
    }
}
