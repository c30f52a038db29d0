import java.util.ArrayList;
import java.util.List;

/** The boundary cases of changes, undo and snapshots and of promises 26 to 33: a method for each sentence that names one. */
public final class EdgesOfChangesTest {
    private static final int[] NO_ROWS = {Integer.MIN_VALUE, -1, 3, 4, Integer.MAX_VALUE};
    private static final int[] NO_COLUMNS = {Integer.MIN_VALUE, -1, 4, 5, Integer.MAX_VALUE};
    private static final int[] NO_SLOTS = {Integer.MIN_VALUE, -1, 2, 3, Integer.MAX_VALUE};

    public static void main(String[] args) {
        atMost512Calls();
        changesIfTheySucceed();
        refusedCallsChangeNothing();
        latest10Changes();
        latestFirst();
        parseClearsHistoryAndSlots();
        parseThatFailsClearsNothing();
        fillBounds();
        fillNoSuchSymbol();
        fillNotACandidate();
        fillNumberOfEmptyCells();
        emptyBounds();
        emptyEmptyOrGiven();
        emptySymbolThatItHad();
        propagateNothing();
        propagateAsLongAsForced();
        propagateEnds();
        fillRowBounds();
        fillRowNoWay();
        fillRowFirstWay();
        fillRowNumberOfCells();
        switchBounds();
        switchSameRow();
        switchNotFull();
        switchGiven();
        switchForbidden();
        switchAllItsColumns();
        undoNone();
        undoNumberLeft();
        undoneChangeIsGone();
        saveNoSuchSlot();
        saveInPlaceOfAnEarlierOne();
        snapshotHoldsAllCells();
        restoreNoSuchSlot();
        restoreEmptySlot();
        restoredOneStaysStored();
        restoreClearsTheHistory();
        restoreNumberOfFilledCells();
        Check.end();
    }

    /** A rectangle with something of all kinds: given and banned, full rows, changes to undo, a slot filled and one empty. */
    private static LatinRectangles mixed() {
        LatinRectangles x = Texts.of("rectangle 3 4;given 0 0 0;ban 0 2 3;ban 2 3 1;ban 2 3 2;ban 2 2 1;ban 2 1 1;");
        x.fill(0, 1, 1);
        x.fill(0, 2, 2);
        x.fill(0, 3, 3);
        x.fillRow(1);
        x.saveSnapshot(1);
        x.fill(2, 0, 2);
        return x;
    }

    /** What can be asked without a change, so that two answers tell whether anything has changed. */
    private static String seen(LatinRectangles x) {
        StringBuilder text = new StringBuilder();
        text.append(x.errorPosition());
        for (int what = 0; what < 7; what++) {
            text.append(' ').append(x.size(what));
        }
        for (int row = 0; row < x.size(0); row++) {
            for (int column = 0; column < x.size(1); column++) {
                text.append(' ').append(x.symbol(row, column)).append(x.isGiven(row, column)).append(x.candidates(row, column));
            }
        }
        for (int slot = 0; slot < 2; slot++) {
            try {
                text.append(' ').append(x.tradeSize(slot)).append(x.isTrade(slot));
            } catch (IllegalStateException e) {
                text.append(" no slot ").append(slot);
            }
        }
        return text.toString();
    }

    /** All that an object still holds, told by using it up. */
    private static List<String> usedUp(LatinRectangles x) {
        List<String> list = new ArrayList<>();
        list.add(seen(x));
        for (int n = 0; n < 12; n++) {
            list.add(x.undo() + ": " + x.size(2) + " " + x.symbol(0, 1) + x.symbol(1, 0) + x.symbol(2, 0));
        }
        list.add("buffer " + x.append(0, 0, 0, 0, 0));
        return list;
    }

    private static void atMost512Calls() {
        Check.sentence("An object is used for at most 512 calls after it has been made");
        LatinRectangles x = new LatinRectangles();
        Texts.append(x, "rectangle 5 5;");
        x.parse(14);
        for (int n = 0; n < 250; n++) {
            Check.same("fill", x.fill(4, n % 5, n % 3 + 2), 24);
            Check.same("empty", x.empty(4, n % 5), n % 3 + 2);
        }
        for (int left = 9; left >= 0; left--) {
            Check.same("undo, the last one as the 512th call", x.undo(), left);
        }
    }

    private static void changesIfTheySucceed() {
        Check.sentence("The methods from fill to switchCycle are changes if they succeed.");
        LatinRectangles x = Texts.of("rectangle 2 2;");
        Check.same("propagate, though it fills nothing", x.propagate(), 0);
        Check.same("its undo", x.undo(), 0);
        x.fillRow(0);
        x.fillRow(1);
        Check.same("fillRow, though it fills nothing", x.fillRow(1), 0);
        x.switchCycle(0, 1, 0);
        x.empty(0, 0);
        x.fill(0, 0, 1);
        x.propagate();
        for (int left = 6; left >= 0; left--) {
            Check.same("undo", x.undo(), left);
        }
        Check.same("no change is left", x.undo(), -1);
        Check.same("filled cells", x.size(2), 0);
        // no others are
        x.fill(1, 1, 1);
        x.saveSnapshot(0);
        x.completions(1000);
        x.completed(0, 0);
        x.possible(0, 0);
        x.firstTransversal(0);
        x.cycleBySize(0, 0);
        x.tradeSize(0);
        x.append(0, 0, 0, 0, 0);
        x.parse(20);
        Check.same("one change alone", x.undo(), 0);
    }

    private static void refusedCallsChangeNothing() {
        Check.sentence("A method that throws an exception changes nothing.");
        LatinRectangles x = mixed();
        String before = seen(x);
        Check.throwsArgument("parse", () -> x.parse(1));
        Check.throwsArgument("parse", () -> x.parse(-1));
        Check.throwsArgument("size", () -> x.size(7));
        Check.throwsBounds("symbol", () -> x.symbol(3, 0));
        Check.throwsBounds("isGiven", () -> x.isGiven(0, 4) ? 1 : 0);
        Check.throwsBounds("candidates", () -> x.candidates(-1, 0));
        Check.throwsArgument("forced", () -> x.forced(0, 4));
        Check.throwsArgument("emptyCell", () -> x.emptyCell(0, 3));
        Check.throwsArgument("completions", () -> x.completions(0));
        Check.throwsBounds("completed", () -> x.completed(0, -1));
        Check.throwsBounds("possible", () -> x.possible(3, 3));
        Check.throwsBounds("transversalsThrough", () -> x.transversalsThrough(3, 0));
        Check.throwsBounds("firstTransversal", () -> x.firstTransversal(3));
        Check.throwsState("cycle", () -> x.cycle(0, 2, 0));
        Check.throwsArgument("cycleBySize", () -> x.cycleBySize(0, 4));
        Check.throwsState("tradeSize", () -> x.tradeSize(0));
        Check.throwsState("isTrade", () -> x.isTrade(0) ? 1 : 0);
        Check.throwsBounds("fill", () -> x.fill(2, 4, 0));
        Check.throwsArgument("fill", () -> x.fill(2, 3, 4));
        Check.throwsState("fill", () -> x.fill(2, 3, 1));
        Check.throwsBounds("empty", () -> x.empty(3, 0));
        Check.throwsState("empty", () -> x.empty(2, 3));
        Check.throwsState("empty", () -> x.empty(0, 0));
        Check.throwsBounds("fillRow", () -> x.fillRow(3));
        Check.throwsState("fillRow", () -> x.fillRow(2));
        Check.throwsBounds("switchCycle", () -> x.switchCycle(0, 1, 4));
        Check.throwsArgument("switchCycle", () -> x.switchCycle(1, 1, 0));
        Check.throwsState("switchCycle", () -> x.switchCycle(0, 2, 0));
        Check.throwsState("switchCycle, given", () -> x.switchCycle(0, 1, 1));
        Check.throwsState("switchCycle, forbidden", () -> x.switchCycle(0, 1, 2));
        Check.throwsBounds("saveSnapshot", () -> x.saveSnapshot(2) ? 1 : 0);
        Check.throwsBounds("restoreSnapshot", () -> x.restoreSnapshot(2));
        Check.throwsState("restoreSnapshot", () -> x.restoreSnapshot(0));
        Check.isTrue("before: " + before + ", then: " + seen(x), before.equals(seen(x)));
        List<String> due = usedUp(mixed());
        List<String> got = usedUp(x);
        Check.isTrue("due: " + due + ", got: " + got, due.equals(got));
    }

    private static void latest10Changes() {
        Check.sentence("The latest 10 changes can be undone");
        for (int changes = 0; changes <= 25; changes++) {
            LatinRectangles x = Texts.of("rectangle 5 5;");
            LatinRectangles square = five();
            for (int n = 0; n < changes; n++) {
                x.fill(n / 5, n % 5, square.symbol(n / 5, n % 5));
            }
            int most = Math.min(changes, 10);
            for (int left = most - 1; left >= 0; left--) {
                Check.same("undo of " + changes, x.undo(), left);
                Check.same("filled cells", x.size(2), changes - most + left);
            }
            Check.same("one more", x.undo(), -1);
            Check.same("filled cells", x.size(2), changes - most);
        }
        // changes that fill no cell take their places among the ten too
        LatinRectangles x = Texts.of("rectangle 5 5;");
        x.fillRow(0);
        x.fillRow(1);
        Check.same("propagate, which fills nothing", x.propagate(), 0);
        for (int n = 0; n < 8; n++) {
            Check.same("fillRow of a full row", x.fillRow(0), 0);
        }
        for (int left = 9; left > 0; left--) {
            Check.same("undo", x.undo(), left);
            Check.same("nothing to be seen of it", x.size(2), 10);
        }
        Check.same("undo of the second row", x.undo(), 0);
        Check.same("filled cells", x.size(2), 5);
        Check.same("the first row was the eleventh", x.undo(), -1);
    }

    private static LatinRectangles five() {
        return Texts.filled("rectangle 5 5;", "01234", "12340", "23401", "34012", "40123");
    }

    private static void latestFirst() {
        Check.sentence("the latest first.");
        LatinRectangles x = Texts.of("rectangle 1 5;");
        // the symbol of the cell ahead of each change that can be undone
        List<Integer> past = new ArrayList<>();
        for (int n = 0; n < 40; n++) {
            change(x, past, n % 5);
            change(x, past, (n + 2) % 5);
            if (n % 3 != 0) {
                undoLatest(x, past);
            }
        }
        Check.same("as many as can be", past.size(), 10);
        while (!past.isEmpty()) {
            undoLatest(x, past);
        }
        Check.same("no change is left", x.undo(), -1);
    }

    private static void change(LatinRectangles x, List<Integer> past, int symbol) {
        past.add(x.symbol(0, 0));
        if (past.size() > 10) {
            past.remove(0);
        }
        if (x.symbol(0, 0) == LatinRectangles.NONE) {
            x.fill(0, 0, symbol);
        } else {
            x.empty(0, 0);
        }
    }

    private static void undoLatest(LatinRectangles x, List<Integer> past) {
        int due = past.remove(past.size() - 1);
        Check.same("undo", x.undo(), past.size());
        Check.same("the cell", x.symbol(0, 0), due);
    }

    private static void parseClearsHistoryAndSlots() {
        Check.sentence("A successful parse restores the initial situation (given cells filled, all others empty), clears the undo"
            + " history and empties both slots.");
        LatinRectangles x = mixed();
        x.saveSnapshot(0);
        Check.same("parse", Texts.parse(x, "rectangle 3 4;given 0 0 0;"), 0);
        Check.same("the given cell is filled", x.symbol(0, 0), 0);
        Check.isTrue("and given", x.isGiven(0, 0));
        Check.same("all others are empty", x.size(2), 1);
        Check.same("no bans", x.size(4), 0);
        Check.same("no change to undo", x.undo(), -1);
        Check.same("filled cells", x.size(2), 1);
        for (int slot = 0; slot < 2; slot++) {
            int empty = slot;
            Check.throwsState("slot " + slot, () -> x.tradeSize(empty));
            Check.throwsState("slot " + slot, () -> x.isTrade(empty) ? 1 : 0);
            Check.throwsState("slot " + slot, () -> x.restoreSnapshot(empty));
            Check.isFalse("slot " + slot, x.saveSnapshot(slot));
        }
        x.fill(0, 1, 1);
        Check.same("the history begins anew", x.undo(), 0);
        // a full history is cleared too
        for (int n = 0; n < 7; n++) {
            x.fill(1, 1, 1);
            x.empty(1, 1);
        }
        Check.same("parse", Texts.parse(x, "rectangle 1 2;"), 0);
        Check.same("no change to undo", x.undo(), -1);
    }

    private static void parseThatFailsClearsNothing() {
        Check.sentence("On a parse error nothing changes except that the buffer is emptied");
        LatinRectangles x = mixed();
        Check.same("parse", Texts.parse(x, "rectangle 3 4;given 0 0 0;given 0 0 1;"), 2);
        Check.same("the history stays", x.undo(), 4);
        Check.same("slot 1 stays", x.tradeSize(1), 0);
        Check.same("filled cells", x.restoreSnapshot(1), 8);
    }

    private static void fillBounds() {
        Check.sentence("IndexOutOfBoundsException if there is no such row or column (checked first) (fill)");
        LatinRectangles x = mixed();
        for (int symbol : new int[] {-1, 0, 1, 4}) {
            for (int row : NO_ROWS) {
                Check.throwsBounds("row " + row, () -> x.fill(row, 0, symbol));
                Check.throwsBounds("row " + row, () -> x.fill(row, 4, symbol));
            }
            for (int column : NO_COLUMNS) {
                Check.throwsBounds("column " + column, () -> x.fill(0, column, symbol));
                Check.throwsBounds("column " + column, () -> x.fill(2, column, symbol));
            }
        }
    }

    private static void fillNoSuchSymbol() {
        Check.sentence("IllegalArgumentException if there is no such symbol (checked second) (fill)");
        LatinRectangles x = mixed();
        for (int symbol : new int[] {-1, 4, 5, 32, 33, 35, -31, -32, Integer.MIN_VALUE, Integer.MAX_VALUE}) {
            Check.throwsArgument("an empty cell", () -> x.fill(2, 1, symbol));
            Check.throwsArgument("a filled cell", () -> x.fill(0, 1, symbol));
            Check.throwsArgument("a given cell", () -> x.fill(0, 0, symbol));
        }
        for (int columns = 2; columns <= 5; columns++) {
            LatinRectangles one = Texts.of("rectangle 1 " + columns + ";");
            int beyond = columns;
            Check.throwsArgument("symbol " + columns, () -> one.fill(0, 0, beyond));
            Check.same("the last symbol", one.fill(0, 0, columns - 1), columns - 1);
        }
    }

    private static void fillNotACandidate() {
        Check.sentence("IllegalStateException if the symbol is not a candidate of the cell (fill)");
        LatinRectangles x = Texts.of("rectangle 5 5;given 0 0 0;ban 4 4 4;");
        x.fill(4, 0, 1);
        x.fill(0, 4, 2);
        Check.throwsState("in the row, at its far end", () -> x.fill(4, 4, 1));
        Check.throwsState("in the column, at its far end", () -> x.fill(4, 4, 2));
        Check.throwsState("forbidden", () -> x.fill(4, 4, 4));
        for (int symbol = 0; symbol < 5; symbol++) {
            int any = symbol;
            Check.throwsState("a given cell", () -> x.fill(0, 0, any));
            Check.throwsState("a filled cell", () -> x.fill(4, 0, any));
        }
        Check.same("two refused symbols and one banned leave two", x.candidates(4, 4), 9);
        Check.same("a candidate", x.fill(4, 4, 3), 21);
        Check.same("refused ones are no changes", x.undo(), 2);
        LatinRectangles dead = Texts.of("rectangle 1 2;ban 0 0 0;ban 0 0 1;");
        Check.throwsState("no candidate at all", () -> dead.fill(0, 0, 0));
        Check.throwsState("no candidate at all", () -> dead.fill(0, 0, 1));
    }

    private static void fillNumberOfEmptyCells() {
        Check.sentence("Returns the number of empty cells then. (fill)");
        LatinRectangles x = Texts.of("rectangle 5 5;");
        LatinRectangles square = five();
        for (int cell = 0; cell < 25; cell++) {
            Check.same("fill", x.fill(cell / 5, cell % 5, square.symbol(cell / 5, cell % 5)), 24 - cell);
        }
        LatinRectangles given = Texts.of("rectangle 1 2;given 0 0 0;");
        Check.same("given cells are not empty", given.fill(0, 1, 1), 0);
    }

    private static void emptyBounds() {
        Check.sentence("IndexOutOfBoundsException if there is no such row or column (checked first) (empty)");
        LatinRectangles x = mixed();
        for (int row : NO_ROWS) {
            Check.throwsBounds("row " + row, () -> x.empty(row, 0));
            Check.throwsBounds("row " + row, () -> x.empty(row, 4));
        }
        for (int column : NO_COLUMNS) {
            Check.throwsBounds("column " + column, () -> x.empty(0, column));
            Check.throwsBounds("column " + column, () -> x.empty(2, column));
        }
    }

    private static void emptyEmptyOrGiven() {
        Check.sentence("IllegalStateException if it is empty or given (empty)");
        LatinRectangles x = Texts.of("rectangle 5 5;given 0 0 0;given 4 4 4;");
        Check.throwsState("the first given cell", () -> x.empty(0, 0));
        Check.throwsState("the last given cell", () -> x.empty(4, 4));
        Check.throwsState("an empty cell", () -> x.empty(0, 1));
        x.fill(0, 1, 1);
        Check.same("a filled one", x.empty(0, 1), 1);
        Check.throwsState("emptied", () -> x.empty(0, 1));
        Check.throwsState("a new object", () -> new LatinRectangles().empty(1, 1));
        // a cell that is filled with its given symbol's like is not given itself
        x.fill(1, 1, 0);
        Check.same("not given", x.empty(1, 1), 0);
    }

    private static void emptySymbolThatItHad() {
        Check.sentence("Returns the symbol that it had. (empty)");
        LatinRectangles x = five();
        LatinRectangles square = five();
        for (int cell = 0; cell < 25; cell++) {
            Check.same("empty", x.empty(cell / 5, cell % 5), square.symbol(cell / 5, cell % 5));
        }
        Check.same("filled cells", x.size(2), 0);
        Check.same("candidates", x.candidates(4, 4), 31);
    }

    private static void propagateNothing() {
        Check.sentence("Returns the number of cells that were filled. (propagate)");
        Check.same("no forced cell", Texts.of("rectangle 5 5;").propagate(), 0);
        Check.same("a full one", five().propagate(), 0);
        Check.same("dead cells alone", Texts.of("rectangle 1 2;ban 0 0 0;ban 0 0 1;ban 0 1 0;ban 0 1 1;").propagate(), 0);
        Check.same("a full one with fewer rows than columns", Texts.filled("rectangle 2 4;", "0123", "1032").propagate(), 0);
        LatinRectangles x = Texts.filled("rectangle 5 5;", "01234", "12340", "23401", "34012", "4012.");
        Check.same("one cell", x.propagate(), 1);
        Check.same("the last one", x.symbol(4, 4), 3);
        LatinRectangles all = Texts.filled("rectangle 2 2;", "0.");
        Check.same("all that are left", all.propagate(), 3);
        Check.same("one change", all.undo(), 1);
        Check.same("filled cells", all.size(2), 1);
    }

    private static void propagateAsLongAsForced() {
        Check.sentence("as long as there is a forced cell, the first one gets the symbol to which it is forced.");
        // each filled cell forces the next
        LatinRectangles x = Texts.of("rectangle 1 5;ban 0 0 1;ban 0 0 2;ban 0 0 3;ban 0 0 4;ban 0 1 2;ban 0 1 3;ban 0 1 4;"
            + "ban 0 2 3;ban 0 2 4;ban 0 3 4;");
        Check.same("one after the other", x.propagate(), 5);
        Texts.hasRow("one after the other", x, 0, "01234");
        // a cell that was forced first may not be so any more: the first one takes its symbol
        LatinRectangles both = Texts.of("rectangle 1 3;ban 0 0 1;ban 0 0 2;ban 0 2 1;ban 0 2 2;");
        Check.same("both", both.propagate(), 2);
        Texts.hasRow("both", both, 0, "01.");
        Check.same("a dead cell is left", both.size(5), 1);
        Check.same("no forced cell is left", both.forcedCells(), 0);
        // bans hold
        LatinRectangles ban = Texts.of("rectangle 2 2;ban 0 0 0;");
        Check.same("a ban", ban.propagate(), 4);
        Texts.hasRow("a ban", ban, 0, "10");
        Texts.hasRow("a ban", ban, 1, "01");
    }

    private static void propagateEnds() {
        Check.sentence("as long as there is a forced cell");
        LatinRectangles x = Texts.filled("rectangle 4 4;", "012.");
        Check.same("one cell", x.propagate(), 1);
        Check.same("no forced cell", x.forcedCells(), 0);
        Check.same("nothing again", x.propagate(), 0);
        Check.same("both are changes", x.undo(), 4);
        Check.same("both are changes", x.undo(), 3);
        Texts.hasRow("undone", x, 0, "012.");
    }

    private static void fillRowBounds() {
        Check.sentence("IndexOutOfBoundsException if there is no such row (checked first) (fillRow)");
        LatinRectangles x = mixed();
        for (int row : NO_ROWS) {
            Check.throwsBounds("row " + row, () -> x.fillRow(row));
        }
        Check.throwsBounds("the only row", () -> Texts.of("rectangle 1 2;").fillRow(1));
    }

    private static void fillRowNoWay() {
        Check.sentence("IllegalStateException if there is no way (fillRow)");
        LatinRectangles dead = Texts.of("rectangle 1 2;ban 0 1 0;ban 0 1 1;");
        Check.throwsState("a dead cell", () -> dead.fillRow(0));
        Check.same("nothing filled", dead.size(2), 0);
        Check.same("no change", dead.undo(), -1);
        LatinRectangles same = Texts.of("rectangle 1 3;ban 0 0 1;ban 0 0 2;ban 0 2 1;ban 0 2 2;");
        Check.throwsState("two cells for one symbol", () -> same.fillRow(0));
        LatinRectangles column = Texts.filled("rectangle 2 2;", "1.", ".0");
        Check.throwsState("what is filled below leaves no way", () -> column.fillRow(0));
        LatinRectangles five = Texts.of("rectangle 1 5;ban 0 0 4;ban 0 1 4;ban 0 2 4;ban 0 3 4;ban 0 4 4;");
        Check.throwsState("a symbol without a cell", () -> five.fillRow(0));
        Check.same("nothing filled", five.size(2), 0);
    }

    private static void fillRowFirstWay() {
        Check.sentence("of all ways the first one by the symbol of the first empty cell, then by that of the second one, and so on.");
        LatinRectangles x = Texts.of("rectangle 5 5;");
        String[] due = {"01234", "10342", "23401", "34120", "42013"};
        for (int row = 0; row < 5; row++) {
            Check.same("fillRow(" + row + ")", x.fillRow(row), 5);
            Texts.hasRow("filled", x, row, due[row]);
        }
        // the first cell has to give way for the last one
        LatinRectangles last = Texts.of("rectangle 1 5;ban 0 4 1;ban 0 4 2;ban 0 4 3;ban 0 4 4;");
        Check.same("fillRow", last.fillRow(0), 5);
        Texts.hasRow("filled", last, 0, "12340");
        // the empty cells alone, given ones among the others
        LatinRectangles given = Texts.of("rectangle 2 5;given 0 0 4;given 0 3 0;given 1 1 1;");
        Check.same("fillRow", given.fillRow(0), 3);
        Texts.hasRow("filled", given, 0, "42103");
        Texts.hasRow("the other row stays", given, 1, ".1...");
        // it need not leave a completion
        LatinRectangles other = Texts.of("rectangle 2 2;ban 1 0 1;");
        Check.same("fillRow", other.fillRow(0), 2);
        Texts.hasRow("filled", other, 0, "01");
        Check.same("completions", other.completions(9), 0);
    }

    private static void fillRowNumberOfCells() {
        Check.sentence("Returns the number of cells that were filled. (fillRow)");
        for (int filled = 0; filled <= 5; filled++) {
            LatinRectangles x = Texts.filled("rectangle 1 5;", "01234".substring(0, filled));
            Check.same("fillRow", x.fillRow(0), 5 - filled);
            Texts.hasRow("filled", x, 0, "01234");
            Check.same("a change, though it may fill nothing", x.undo(), filled);
            Check.same("filled cells", x.size(2), filled);
        }
        Check.same("all given", Texts.of("rectangle 1 2;given 0 0 0;given 0 1 1;").fillRow(0), 0);
    }

    private static void switchBounds() {
        Check.sentence("IndexOutOfBoundsException if there is no such row or column (checked first) (switchCycle)");
        LatinRectangles x = mixed();
        for (int row : NO_ROWS) {
            Check.throwsBounds("a", () -> x.switchCycle(row, 0, 0));
            Check.throwsBounds("b", () -> x.switchCycle(0, row, 0));
            Check.throwsBounds("a is b", () -> x.switchCycle(row, row, 0));
            Check.throwsBounds("the other row is not full", () -> x.switchCycle(2, row, 0));
            Check.throwsBounds("the other row is not full", () -> x.switchCycle(row, 2, 0));
        }
        for (int column : NO_COLUMNS) {
            Check.throwsBounds("column", () -> x.switchCycle(0, 1, column));
            Check.throwsBounds("column, a is b", () -> x.switchCycle(1, 1, column));
            Check.throwsBounds("column, not full", () -> x.switchCycle(1, 2, column));
        }
    }

    private static void switchSameRow() {
        Check.sentence("IllegalArgumentException if a is b (checked second) (switchCycle)");
        LatinRectangles x = mixed();
        Check.throwsArgument("a full row", () -> x.switchCycle(1, 1, 0));
        Check.throwsArgument("with a given cell", () -> x.switchCycle(0, 0, 0));
        Check.throwsArgument("a row that is not full", () -> x.switchCycle(2, 2, 3));
        Check.throwsArgument("the only row", () -> Texts.of("rectangle 1 2;").switchCycle(0, 0, 1));
    }

    private static void switchNotFull() {
        Check.sentence("IllegalStateException if one of the rows is not full (switchCycle)");
        LatinRectangles x = Texts.filled("rectangle 3 3;", "012", "12.", "...");
        Check.throwsState("b is not full", () -> x.switchCycle(0, 1, 0));
        Check.throwsState("a is not full", () -> x.switchCycle(1, 0, 0));
        Check.throwsState("neither is full", () -> x.switchCycle(1, 2, 0));
        Check.throwsState("b is empty", () -> x.switchCycle(0, 2, 2));
        x.fill(1, 2, 0);
        Check.same("full then", x.switchCycle(0, 1, 0), 3);
        Check.throwsState("a new object", () -> new LatinRectangles().switchCycle(0, 1, 0));
    }

    private static void switchGiven() {
        Check.sentence("or a cell in its columns in one of the rows is given (switchCycle)");
        // cycles of columns 0, 1 and of columns 2, 3
        for (int row = 0; row < 2; row++) {
            for (int column = 0; column < 4; column++) {
                String[] rows = {"0123", "1032"};
                LatinRectangles x = Texts.filled(
                    "rectangle 2 4;given " + row + " " + column + " " + rows[row].charAt(column) + ";", rows);
                for (int c = 0; c < 4; c++) {
                    int at = c;
                    if (c / 2 == column / 2) {
                        Check.throwsState("in its columns", () -> x.switchCycle(0, 1, at));
                        Check.throwsState("in its columns", () -> x.switchCycle(1, 0, at));
                    } else {
                        Check.same("in other columns", x.switchCycle(0, 1, at), 2);
                        Check.same("in other columns", x.switchCycle(1, 0, at), 2);
                    }
                }
            }
        }
        LatinRectangles third = Texts.filled("rectangle 3 4;given 2 0 2;", "0123", "1032");
        Check.same("in another row", third.switchCycle(0, 1, 0), 2);
    }

    private static void switchForbidden() {
        Check.sentence("or gets a symbol that is forbidden there (switchCycle)");
        for (int row = 0; row < 2; row++) {
            for (int column = 0; column < 4; column++) {
                String[] rows = {"0123", "1032"};
                LatinRectangles x = Texts.filled(
                    "rectangle 2 4;ban " + row + " " + column + " " + rows[1 - row].charAt(column) + ";", rows);
                for (int c = 0; c < 4; c++) {
                    int at = c;
                    if (c / 2 == column / 2) {
                        Check.throwsState("in its columns", () -> x.switchCycle(0, 1, at));
                        Check.throwsState("in its columns", () -> x.switchCycle(1, 0, at));
                    } else {
                        Check.same("in other columns", x.switchCycle(0, 1, at), 2);
                        Check.same("in other columns", x.switchCycle(1, 0, at), 2);
                    }
                }
            }
        }
        // symbols that none of its cells gets, and a third row
        LatinRectangles free = Texts.filled("rectangle 3 4;ban 0 0 2;ban 0 1 3;ban 1 0 3;ban 1 1 2;ban 2 0 0;ban 2 0 1;",
            "0123", "1032");
        Check.same("other symbols", free.switchCycle(0, 1, 1), 2);
    }

    private static void switchAllItsColumns() {
        Check.sentence("To switch a cycle exchanges the symbols of the two rows in all its columns. / Returns its size.");
        LatinRectangles x = five();
        Check.same("all columns", x.switchCycle(4, 0, 4), 5);
        Texts.hasRow("switched", x, 0, "40123");
        Texts.hasRow("switched", x, 4, "01234");
        Texts.hasRow("others stay", x, 1, "12340");
        LatinRectangles two = Texts.filled("rectangle 2 5;", "01234", "14320");
        Check.same("the greater one", two.switchCycle(0, 1, 4), 3);
        Texts.hasRow("switched", two, 0, "14230");
        Texts.hasRow("switched", two, 1, "01324");
        Check.same("the smaller one", two.switchCycle(1, 0, 3), 2);
        Texts.hasRow("switched", two, 0, "14320");
        Texts.hasRow("switched", two, 1, "01234");
        LatinRectangles least = Texts.filled("rectangle 2 2;", "01", "10");
        Check.same("the least one", least.switchCycle(0, 1, 1), 2);
        Texts.hasRow("switched", least, 0, "10");
        Texts.hasRow("switched", least, 1, "01");
        Check.same("as many filled cells as ahead", least.size(2), 4);
        Check.same("and full rows", least.size(6), 2);
    }

    private static void undoNone() {
        Check.sentence("NONE if there was none to undo. (undo)");
        LatinRectangles x = Texts.of("rectangle 1 2;given 0 0 1;");
        for (int n = 0; n < 3; n++) {
            Check.same("undo", x.undo(), -1);
        }
        Check.same("filled cells", x.size(2), 1);
        x.fill(0, 1, 0);
        Check.same("undo", x.undo(), 0);
        Check.same("undo", x.undo(), -1);
        Check.same("undo of a new object", new LatinRectangles().undo(), -1);
    }

    private static void undoNumberLeft() {
        Check.sentence("Returns the number of changes that can still be undone (undo)");
        LatinRectangles x = new LatinRectangles();
        for (int n = 1; n <= 15; n++) {
            x.propagate();
            Check.same("undo of " + n, x.undo(), Math.min(n, 10) - 1);
            x.propagate();
        }
        for (int left = 9; left >= 0; left--) {
            Check.same("undo", x.undo(), left);
        }
        Check.same("undo", x.undo(), -1);
    }

    private static void undoneChangeIsGone() {
        Check.sentence("Undoes the latest change that has not been undone.");
        LatinRectangles x = Texts.of("rectangle 1 5;");
        x.fill(0, 0, 0);
        x.fill(0, 1, 1);
        x.undo();
        Check.same("an undone one is not undone again", x.undo(), 0);
        Texts.hasRow("undone", x, 0, ".....");
        Check.same("nor is an undo undone", x.undo(), -1);
        Texts.hasRow("undone", x, 0, ".....");
        x.fill(0, 4, 4);
        Check.same("the new one alone", x.undo(), 0);
        Texts.hasRow("undone", x, 0, ".....");
    }

    private static void saveNoSuchSlot() {
        Check.sentence("IndexOutOfBoundsException if there is no such slot (saveSnapshot)");
        LatinRectangles x = new LatinRectangles();
        for (int slot : NO_SLOTS) {
            Check.throwsBounds("slot " + slot, () -> x.saveSnapshot(slot) ? 1 : 0);
        }
        Check.isFalse("slot 0 is empty still", x.saveSnapshot(0));
        Check.isFalse("slot 1 is empty still", x.saveSnapshot(1));
    }

    private static void saveInPlaceOfAnEarlierOne() {
        Check.sentence("Saves a snapshot in a slot, in place of an earlier one. / Returns whether there was an earlier one.");
        for (int slot = 0; slot < 2; slot++) {
            LatinRectangles x = new LatinRectangles();
            Check.isFalse("none", x.saveSnapshot(slot));
            x.fill(1, 1, 1);
            Check.isTrue("one", x.saveSnapshot(slot));
            Check.isTrue("one again", x.saveSnapshot(slot));
            x.empty(1, 1);
            Check.same("the later one counts", x.restoreSnapshot(slot), 1);
            Check.same("symbol(1, 1)", x.symbol(1, 1), 1);
            Check.isTrue("restored, it is there still", x.saveSnapshot(slot));
            Check.isFalse("the other slot is empty", x.saveSnapshot(1 - slot));
        }
    }

    private static void snapshotHoldsAllCells() {
        Check.sentence("There are two snapshot slots, 0 and 1; a snapshot holds all cells.");
        LatinRectangles x = five();
        x.saveSnapshot(0);
        x.switchCycle(0, 4, 0);
        x.saveSnapshot(1);
        for (int cell = 0; cell < 25; cell++) {
            x.empty(cell / 5, cell % 5);
        }
        Check.same("slot 0", x.restoreSnapshot(0), 25);
        Texts.hasRow("slot 0", x, 0, "01234");
        Texts.hasRow("slot 0", x, 4, "40123");
        Check.same("slot 1", x.restoreSnapshot(1), 25);
        Texts.hasRow("slot 1", x, 0, "40123");
        Texts.hasRow("slot 1", x, 2, "23401");
        Texts.hasRow("slot 1", x, 4, "01234");
        // what is asked of the cells goes by the restored ones
        Check.same("full rows", x.size(6), 5);
        Check.same("candidates", x.candidates(4, 4), 0);
        x.empty(4, 4);
        Check.same("candidates", x.candidates(4, 4), 16);
    }

    private static void restoreNoSuchSlot() {
        Check.sentence("IndexOutOfBoundsException if there is no such slot (checked first) (restoreSnapshot)");
        LatinRectangles x = new LatinRectangles();
        for (int slot : NO_SLOTS) {
            Check.throwsBounds("slot " + slot, () -> x.restoreSnapshot(slot));
        }
    }

    private static void restoreEmptySlot() {
        Check.sentence("IllegalStateException if the slot is empty (restoreSnapshot)");
        for (int slot = 0; slot < 2; slot++) {
            LatinRectangles x = new LatinRectangles();
            int empty = 1 - slot;
            x.fill(0, 0, 1);
            x.saveSnapshot(slot);
            Check.throwsState("slot " + empty, () -> x.restoreSnapshot(empty));
            Check.same("the history stays", x.undo(), 0);
        }
    }

    private static void restoredOneStaysStored() {
        Check.sentence("Restores the snapshot of a slot, which stays stored.");
        LatinRectangles x = Texts.filled("rectangle 2 3;given 1 2 2;", "0..");
        x.saveSnapshot(0);
        for (int n = 0; n < 3; n++) {
            x.fillRow(0);
            Check.same("restoreSnapshot", x.restoreSnapshot(0), 2);
            Texts.hasRow("restored", x, 0, "0..");
            Texts.hasRow("restored", x, 1, "..2");
            Check.same("as it is there", x.tradeSize(0), 0);
            Check.isTrue("given cells are given", x.isGiven(1, 2));
            Check.isFalse("no other cell is", x.isGiven(0, 0));
        }
        x.empty(0, 0);
        Check.same("a later change leaves the snapshot", x.tradeSize(0), 1);
    }

    private static void restoreClearsTheHistory() {
        Check.sentence("The undo history is cleared. (restoreSnapshot)");
        LatinRectangles x = Texts.of("rectangle 1 5;");
        x.saveSnapshot(0);
        for (int n = 0; n < 6; n++) {
            x.fill(0, 0, n % 5);
            x.empty(0, 0);
        }
        x.fill(0, 4, 4);
        Check.same("restoreSnapshot", x.restoreSnapshot(0), 0);
        Check.same("undo", x.undo(), -1);
        Texts.hasRow("restored", x, 0, ".....");
        x.fill(0, 0, 3);
        Check.same("restored though nothing is saved since", x.restoreSnapshot(0), 0);
        x.fill(0, 1, 2);
        Check.same("a change behind it", x.undo(), 0);
        Texts.hasRow("undone", x, 0, ".....");
    }

    private static void restoreNumberOfFilledCells() {
        Check.sentence("Returns the number of filled cells then. (restoreSnapshot)");
        LatinRectangles x = Texts.of("rectangle 5 5;");
        x.saveSnapshot(0);
        for (int row = 0; row < 5; row++) {
            x.fillRow(row);
            x.saveSnapshot(1);
            Check.same("none", x.restoreSnapshot(0), 0);
            Check.same("full rows", x.restoreSnapshot(1), 5 * row + 5);
        }
        LatinRectangles given = Texts.of("rectangle 1 2;given 0 0 0;");
        given.saveSnapshot(1);
        given.fill(0, 1, 1);
        Check.same("given cells count", given.restoreSnapshot(1), 1);
    }
}
