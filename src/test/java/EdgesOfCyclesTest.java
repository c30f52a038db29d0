/** The boundary cases of transversals, cycles and trades and of promises 17 to 25: a method for each sentence that names one. */
public final class EdgesOfCyclesTest {
    private static final int[] FAR = {Integer.MIN_VALUE, -1, 5, 6, 32, Integer.MAX_VALUE};

    public static void main(String[] args) {
        oneFilledCellOfEachRow();
        noTwoInTheSameColumn();
        noTwoWithTheSameSymbol();
        throughACell();
        firstByTheColumns();
        noTransversal();
        noSuchRowOfTransversal();
        greatestNumberOfCells();
        fullRowsAlone();
        endsWhenItWouldComeAgain();
        boundsAheadOfAll();
        sameRowAheadOfFull();
        smallestCycleFirst();
        pairsOfFullRowsAlone();
        notSoManyCycles();
        whatOfCycleOutOfRange();
        intercalatesAllFourFilled();
        intercalatesCrossed();
        cellsNotAsInASnapshot();
        someCellsNotAsThere();
        allFilledNowAndThere();
        sameSetsInRowsAndColumns();
        noSuchSlot();
        emptySlot();
        Check.end();
    }

    private static LatinRectangles five() {
        return Texts.filled("rectangle 5 5;", "01234", "12340", "23401", "34012", "40123");
    }

    private static void oneFilledCellOfEachRow() {
        Check.sentence("A transversal consists of one filled cell of each row");
        Check.same("no filled cell", new LatinRectangles().transversals(), 0);
        Check.same("one row, no filled cell", Texts.of("rectangle 1 5;").transversals(), 0);
        Check.same("one row, one filled cell", Texts.filled("rectangle 1 5;", "....3").transversals(), 1);
        Check.same("one row, full", Texts.filled("rectangle 1 5;", "01234").transversals(), 5);
        Check.same("one given cell", Texts.of("rectangle 1 2;given 0 1 0;").transversals(), 1);
        LatinRectangles x = five();
        Check.same("all rows", x.transversals(), 15);
        Check.same("the least number of cells: a diagonal",
            Texts.filled("rectangle 5 5;", "0....", ".2...", "..4..", "...1.", "....3").transversals(), 1);
        Texts.parse(x, "rectangle 4 5;");
        for (int row = 0; row < 3; row++) {
            x.fillRow(row);
        }
        Check.same("the last row is empty", x.transversals(), 0);
        x.fill(3, 4, 0);
        Check.isTrue("one cell in the last row", x.transversals() > 0);
    }

    private static void noTwoInTheSameColumn() {
        Check.sentence("no two in the same column");
        Check.same("one column", Texts.filled("rectangle 2 5;", "....0", "....1").transversals(), 0);
        Check.same("two columns", Texts.filled("rectangle 2 5;", "....0", "1....").transversals(), 1);
        Check.same("3 x 3, the last in the first's column", Texts.filled("rectangle 3 3;", "0..", ".1.", "2..").transversals(), 0);
    }

    private static void noTwoWithTheSameSymbol() {
        Check.sentence("no two with the same symbol");
        Check.same("one symbol", Texts.filled("rectangle 2 5;", "0....", "....0").transversals(), 0);
        Check.same("symbols 0 and 4", Texts.filled("rectangle 2 5;", "0....", "....4").transversals(), 1);
        Check.same("2 x 2, full", Texts.filled("rectangle 2 2;", "01", "10").transversals(), 0);
        Check.same("3 x 3, the last with the first's symbol", Texts.filled("rectangle 3 3;", "0..", ".1.", "..0").transversals(), 0);
    }

    private static void throughACell() {
        Check.sentence("Returns the number of transversals that a cell belongs to.");
        LatinRectangles x = five();
        for (int row = 0; row < 5; row++) {
            for (int column = 0; column < 5; column++) {
                Check.same("transversalsThrough(" + row + ", " + column + ")", x.transversalsThrough(row, column), 3);
            }
        }
        x.empty(4, 4);
        Check.same("an empty cell", x.transversalsThrough(4, 4), 0);
        Check.same("the others", x.transversals(), 12);
        LatinRectangles row = Texts.filled("rectangle 1 5;", "0.2.4");
        for (int column = 0; column < 5; column++) {
            Check.same("one row", row.transversalsThrough(0, column), column % 2 == 0 ? 1 : 0);
        }
        LatinRectangles none = Texts.filled("rectangle 2 2;", "01");
        Check.same("a filled cell of none", none.transversalsThrough(0, 0), 0);
    }

    private static void firstByTheColumns() {
        Check.sentence("Transversals are ordered by the column in row 0, then by that in row 1, and so on.");
        hasFirst(Texts.filled("rectangle 1 5;", "....0"), 4);
        hasFirst(Texts.filled("rectangle 1 5;", "4...0"), 0);
        hasFirst(five(), 0, 1, 2, 3, 4);
        hasFirst(Texts.filled("rectangle 2 5;", "0...4", "...01"), 0, 4);
        hasFirst(Texts.filled("rectangle 2 5;", "0...4", "4..0."), 4, 3);
        hasFirst(Texts.filled("rectangle 3 4;", "0123", "1230", "3012"), 0, 1, 2);
        // whatever the first row takes, the last row decides
        hasFirst(Texts.filled("rectangle 3 4;", "0123", "1230", "2..."), 1, 2, 0);
    }

    private static void hasFirst(LatinRectangles x, int... columns) {
        for (int row = 0; row < columns.length; row++) {
            Check.same("firstTransversal(" + row + ")", x.firstTransversal(row), columns[row]);
        }
    }

    private static void noTransversal() {
        Check.sentence("Returns the column; NONE if there is no transversal.");
        hasFirst(new LatinRectangles(), -1, -1);
        hasFirst(Texts.filled("rectangle 2 2;", "01", "10"), -1, -1);
        hasFirst(Texts.filled("rectangle 3 3;", "012", "120"), -1, -1, -1);
        hasFirst(Texts.filled("rectangle 3 3;", "...", "120", "201"), -1, -1, -1);
        // asked for after one was found, the answer is none again
        LatinRectangles x = Texts.filled("rectangle 1 3;", ".1.");
        hasFirst(x, 1);
        x.empty(0, 1);
        hasFirst(x, -1);
    }

    private static void noSuchRowOfTransversal() {
        Check.sentence("IndexOutOfBoundsException if there is no such row (firstTransversal)");
        for (int rows = 1; rows <= 5; rows++) {
            LatinRectangles x = Texts.of("rectangle " + rows + " 5;");
            int beyond = rows;
            Check.throwsBounds("firstTransversal(" + rows + ")", () -> x.firstTransversal(beyond));
            Check.same("the last row", x.firstTransversal(rows - 1), -1);
            for (int far : FAR) {
                Check.throwsBounds("firstTransversal(" + far + ")", () -> x.firstTransversal(far));
            }
        }
    }

    private static void greatestNumberOfCells() {
        Check.sentence("Returns the greatest number of filled cells of which no two are in the same row, in the same column,"
            + " or have the same symbol.");
        Check.same("no filled cell", Texts.of("rectangle 5 5;").longestTransversal(), 0);
        Check.same("one filled cell, the first", Texts.filled("rectangle 5 5;", "0....").longestTransversal(), 1);
        Check.same("one filled cell, the last", Texts.of("rectangle 5 5;given 4 4 0;").longestTransversal(), 1);
        Check.same("the last cell of a wide one", Texts.filled("rectangle 1 5;", "....0").longestTransversal(), 1);
        Check.same("columns beyond the rows", Texts.filled("rectangle 2 5;", "...01", "....2").longestTransversal(), 2);
        Check.same("as many as there are rows", five().longestTransversal(), 5);
        Check.same("a full row", Texts.filled("rectangle 5 5;", "01234").longestTransversal(), 1);
        Check.same("a full column", Texts.filled("rectangle 5 5;", "0", "1", "2", "3", "4").longestTransversal(), 1);
        Check.same("all of one symbol", Texts.filled("rectangle 5 5;", "0....", ".0...", "..0..", "...0.", "....0")
            .longestTransversal(), 1);
        Check.same("the first row is left out for two below it",
            Texts.filled("rectangle 3 3;", "1..", "0..", ".1.").longestTransversal(), 2);
        Check.same("rows of which none is left out: 2 x 2", Texts.filled("rectangle 2 2;", "0.", ".1").longestTransversal(), 2);
        Check.same("the even cyclic one", Texts.filled("rectangle 4 4;", "0123", "1230", "2301", "3012").longestTransversal(), 3);
    }

    private static void fullRowsAlone() {
        Check.sentence("IllegalStateException if one of the rows is not full (cycle)");
        LatinRectangles x = Texts.filled("rectangle 3 5;", "01234", "1234.", "2340.");
        Check.throwsState("b is not full", () -> x.cycle(0, 1, 0));
        Check.throwsState("a is not full", () -> x.cycle(1, 0, 4));
        Check.throwsState("neither is full", () -> x.cycle(1, 2, 0));
        x.fill(1, 4, 0);
        Check.same("full then", x.cycle(0, 1, 0), 5);
        Check.throwsState("an empty rectangle", () -> new LatinRectangles().cycle(0, 1, 0));
        Check.same("given cells fill a row too",
            Texts.of("rectangle 2 2;given 0 0 0;given 0 1 1;given 1 0 1;given 1 1 0;").cycle(0, 1, 0), 2);
    }

    private static void endsWhenItWouldComeAgain() {
        Check.sentence("it begins with c; [..] it ends when c would come again. Its size is the number of its columns.");
        LatinRectangles least = Texts.filled("rectangle 2 2;", "01", "10");
        Check.same("the least one", least.cycle(0, 1, 0), 2);
        Check.same("the least one", least.cycle(1, 0, 1), 2);
        LatinRectangles x = five();
        for (int a = 0; a < 5; a++) {
            for (int b = 0; b < 5; b++) {
                for (int column = 0; column < 5 && a != b; column++) {
                    Check.same("the greatest one", x.cycle(a, b, column), 5);
                }
            }
        }
        LatinRectangles two = Texts.filled("rectangle 2 5;", "01234", "14320");
        int[] due = {3, 3, 2, 2, 3};
        for (int column = 0; column < 5; column++) {
            Check.same("through column " + column, two.cycle(0, 1, column), due[column]);
            Check.same("through column " + column, two.cycle(1, 0, column), due[column]);
        }
    }

    private static void boundsAheadOfAll() {
        Check.sentence("IndexOutOfBoundsException if there is no such row or column (checked first) (cycle)");
        LatinRectangles x = Texts.filled("rectangle 3 4;", "0123", "1032");
        int[] rows = {Integer.MIN_VALUE, -1, 3, 4, Integer.MAX_VALUE};
        int[] columns = {Integer.MIN_VALUE, -1, 4, 5, Integer.MAX_VALUE};
        for (int row : rows) {
            Check.throwsBounds("a, b as it should be", () -> x.cycle(row, 0, 0));
            Check.throwsBounds("b, a as it should be", () -> x.cycle(0, row, 0));
            Check.throwsBounds("a is b", () -> x.cycle(row, row, 0));
            Check.throwsBounds("the other one is not full", () -> x.cycle(row, 2, 0));
            Check.throwsBounds("the other one is not full", () -> x.cycle(2, row, 0));
        }
        for (int column : columns) {
            Check.throwsBounds("column", () -> x.cycle(0, 1, column));
            Check.throwsBounds("column, a is b", () -> x.cycle(0, 0, column));
            Check.throwsBounds("column, not full", () -> x.cycle(0, 2, column));
        }
    }

    private static void sameRowAheadOfFull() {
        Check.sentence("IllegalArgumentException if a is b (checked second) (cycle)");
        LatinRectangles x = Texts.filled("rectangle 2 4;", "0123");
        Check.throwsArgument("a full row", () -> x.cycle(0, 0, 3));
        Check.throwsArgument("a row that is not full", () -> x.cycle(1, 1, 0));
        Check.throwsArgument("the only row", () -> Texts.of("rectangle 1 2;").cycle(0, 0, 1));
    }

    private static void smallestCycleFirst() {
        Check.sentence("each one with its lowest column as its beginning, are ordered by size, the smallest first, then by a, then by b,"
            + " then by beginning.");
        hasCycles(Texts.filled("rectangle 2 2;", "01", "10"), new int[][] {{2, 0, 1, 0}});
        hasCycles(Texts.filled("rectangle 2 4;", "0123", "1032"), new int[][] {{2, 0, 1, 0}, {2, 0, 1, 2}});
        hasCycles(Texts.filled("rectangle 2 5;", "01234", "14320"), new int[][] {{2, 0, 1, 2}, {3, 0, 1, 0}});
        // the most that a square of side 5 has
        hasCycles(Texts.filled("rectangle 5 5;", "01234", "10342", "23401", "34120", "42013"), new int[][] {
            {2, 0, 1, 0}, {2, 1, 2, 0}, {2, 1, 3, 0}, {2, 1, 4, 0}, {3, 0, 1, 2}, {3, 1, 2, 1}, {3, 1, 3, 1}, {3, 1, 4, 1},
            {5, 0, 2, 0}, {5, 0, 3, 0}, {5, 0, 4, 0}, {5, 2, 3, 0}, {5, 2, 4, 0}, {5, 3, 4, 0}});
    }

    private static void pairsOfFullRowsAlone() {
        Check.sentence("The cycles of all pairs of full rows a less than b");
        hasCycles(Texts.of("rectangle 1 2;"), new int[0][]);
        hasCycles(Texts.filled("rectangle 1 2;", "01"), new int[0][]);
        hasCycles(Texts.filled("rectangle 3 3;", "01.", "120", "201"), new int[][] {{3, 1, 2, 0}});
        hasCycles(Texts.filled("rectangle 3 3;", "012", "120", "20."), new int[][] {{3, 0, 1, 0}});
        hasCycles(Texts.filled("rectangle 3 3;", "012", "12.", "201"), new int[][] {{3, 0, 2, 0}});
        hasCycles(Texts.filled("rectangle 2 3;", "01.", "120"), new int[0][]);
        hasCycles(Texts.filled("rectangle 2 3;", "012", "12."), new int[0][]);
        hasCycles(Texts.filled("rectangle 2 3;", "...", "120"), new int[0][]);
    }

    private static void notSoManyCycles() {
        Check.sentence("Returns the property; NONE if there are not so many, or k is negative. (cycleBySize)");
        hasCycles(new LatinRectangles(), new int[0][]);
        // one that was there and is there no more
        LatinRectangles x = Texts.filled("rectangle 2 2;", "01", "10");
        hasCycles(x, new int[][] {{2, 0, 1, 0}});
        x.empty(1, 1);
        hasCycles(x, new int[0][]);
    }

    private static void hasCycles(LatinRectangles x, int[][] due) {
        for (int what = 0; what < 4; what++) {
            for (int k = 0; k < due.length; k++) {
                Check.same("cycleBySize(" + k + ", " + what + ")", x.cycleBySize(k, what), due[k][what]);
            }
            for (int k : new int[] {-1, due.length, due.length + 1, 20, 21, Integer.MIN_VALUE, Integer.MAX_VALUE}) {
                Check.same("cycleBySize(" + k + ", " + what + ")", x.cycleBySize(k, what), -1);
            }
        }
    }

    private static void whatOfCycleOutOfRange() {
        Check.sentence("IllegalArgumentException if what is out of range (cycleBySize)");
        LatinRectangles x = Texts.filled("rectangle 2 2;", "01", "10");
        for (int what : new int[] {-1, 4, Integer.MIN_VALUE, Integer.MAX_VALUE}) {
            for (int k : new int[] {0, 1, -1, Integer.MIN_VALUE}) {
                Check.throwsArgument("cycleBySize(" + k + ", " + what + ")", () -> x.cycleBySize(k, what));
            }
        }
    }

    private static void intercalatesAllFourFilled() {
        Check.sentence("choices of two rows a less than b and two columns c less than d, with all four cells filled (intercalates)");
        Check.same("an empty one", Texts.of("rectangle 5 5;").intercalates(), 0);
        Check.same("one row", Texts.filled("rectangle 1 5;", "01234").intercalates(), 0);
        Check.same("the least one", Texts.filled("rectangle 2 2;", "01", "10").intercalates(), 1);
        String[][] missing = {{".1", "10"}, {"0.", "10"}, {"01", ".0"}, {"01", "1."}, {"0.", ".0"}, {".1", "1."}};
        for (String[] rows : missing) {
            Check.same("a cell missing", Texts.filled("rectangle 2 2;", rows).intercalates(), 0);
        }
        Check.same("the first and the last lines", Texts.filled("rectangle 5 5;", "0...4", "", "", "", "4...0").intercalates(), 1);
        Check.same("the last lines", Texts.filled("rectangle 5 5;", "", "", "", "...34", "...43").intercalates(), 1);
        Check.same("columns beyond the rows", Texts.filled("rectangle 2 5;", "...34", "...43").intercalates(), 1);
        Check.same("given ones", Texts.of("rectangle 2 2;given 0 0 0;given 0 1 1;given 1 0 1;given 1 1 0;").intercalates(), 1);
        Check.same("the most", Texts.filled("rectangle 4 4;", "0123", "1032", "2301", "3210").intercalates(), 12);
    }

    private static void intercalatesCrossed() {
        Check.sentence("(a, c) has the symbol of (b, d), and (a, d) that of (b, c).");
        Check.same("one diagonal alone", Texts.filled("rectangle 2 3;", "01.", "20.").intercalates(), 0);
        Check.same("the other one alone", Texts.filled("rectangle 2 3;", "01.", "12.").intercalates(), 0);
        Check.same("neither", Texts.filled("rectangle 2 4;", "01..", "23..").intercalates(), 0);
        Check.same("two in two rows", Texts.filled("rectangle 2 4;", "0123", "1032").intercalates(), 2);
        Check.same("a cycle of three is none", Texts.filled("rectangle 2 3;", "012", "120").intercalates(), 0);
    }

    private static void cellsNotAsInASnapshot() {
        Check.sentence("Returns the number of cells that are not as they are in a snapshot.");
        LatinRectangles x = Texts.of("rectangle 5 5;");
        x.saveSnapshot(0);
        Check.same("none", x.tradeSize(0), 0);
        for (int row = 0; row < 5; row++) {
            x.fillRow(row);
        }
        Check.same("all: filled then", x.tradeSize(0), 25);
        x.saveSnapshot(1);
        Check.same("none of the other slot", x.tradeSize(1), 0);
        x.restoreSnapshot(0);
        Check.same("all: empty then", x.tradeSize(1), 25);
        LatinRectangles one = Texts.filled("rectangle 2 3;", "0..");
        one.saveSnapshot(0);
        one.empty(0, 0);
        Check.same("emptied", one.tradeSize(0), 1);
        one.fill(0, 0, 1);
        Check.same("another symbol", one.tradeSize(0), 1);
        one.empty(0, 0);
        one.fill(0, 0, 0);
        Check.same("as it was", one.tradeSize(0), 0);
        one.fill(1, 2, 0);
        Check.same("the last cell", one.tradeSize(0), 1);
    }

    private static void someCellsNotAsThere() {
        Check.sentence("some cells are not as they are there (isTrade)");
        LatinRectangles x = Texts.filled("rectangle 2 2;", "01", "10");
        x.saveSnapshot(0);
        Check.isFalse("no cell", x.isTrade(0));
        x.switchCycle(0, 1, 0);
        Check.isTrue("all cells", x.isTrade(0));
        x.switchCycle(1, 0, 1);
        Check.isFalse("as they were", x.isTrade(0));
        LatinRectangles empty = new LatinRectangles();
        empty.saveSnapshot(1);
        Check.isFalse("an empty one", empty.isTrade(1));
    }

    private static void allFilledNowAndThere() {
        Check.sentence("all these are filled now and there (isTrade)");
        for (int row = 0; row < 2; row++) {
            for (int column = 0; column < 4; column++) {
                LatinRectangles x = Texts.filled("rectangle 2 4;", "0123", "1032");
                x.saveSnapshot(0);
                x.switchCycle(0, 1, 0);
                Check.isTrue("a trade", x.isTrade(0));
                x.saveSnapshot(1);
                x.empty(row, column);
                Check.isFalse("empty now", x.isTrade(0));
                Check.isFalse("empty now, and no other cell differs", x.isTrade(1));
                x.saveSnapshot(1);
                x.fill(row, column, Integer.numberOfTrailingZeros(x.candidates(row, column)));
                Check.isFalse("empty there", x.isTrade(1));
                Check.isTrue("a trade again", x.isTrade(0));
            }
        }
        // rows and columns keep their symbols, but each of these cells is empty now or there
        LatinRectangles moved = Texts.filled("rectangle 2 2;", "0.", ".0");
        moved.saveSnapshot(0);
        Texts.refill(moved, ".0", "0.");
        Check.isFalse("a symbol moved into empty cells", moved.isTrade(0));
        Check.same("a symbol moved into empty cells", moved.tradeSize(0), 4);
        // cells that are empty now and there are no hindrance
        LatinRectangles part = Texts.filled("rectangle 3 3;", "01.", "10.");
        part.saveSnapshot(0);
        Texts.refill(part, "10.", "01.");
        Check.isTrue("others are empty", part.isTrade(0));
    }

    private static void sameSetsInRowsAndColumns() {
        Check.sentence("in each row and in each column they have the same set of symbols now and there. (isTrade)");
        // the sets of cells that differ count, not of whole rows: 0 leaves (0, 0) for (0, 2), where 2 was
        isNoTrade("a row alone", "rectangle 1 5;", new String[] {"01234"}, new String[] {"40123"});
        isNoTrade("a column alone", "rectangle 5 5;", new String[] {"0", "1", "2", "3", "4"}, new String[] {"4", "0", "1", "2", "3"});
        isNoTrade("one cell", "rectangle 2 5;", new String[] {"0...."}, new String[] {"4...."});
        isNoTrade("the last row and column are wrong", "rectangle 5 5;",
            new String[] {"", "", "", "...01", "...10"}, new String[] {"", "", "", "...10", "...02"});
        isNoTrade("rows are right, columns are not", "rectangle 2 4;", new String[] {"01..", "..01"}, new String[] {"10..", "..10"});
        isNoTrade("columns are right, rows are not", "rectangle 4 4;",
            new String[] {"0...", "1...", ".0..", ".1.."}, new String[] {"1...", "0...", ".1..", ".0.."});
        LatinRectangles x = five();
        x.saveSnapshot(0);
        Texts.refill(x, "12340", "23401", "34012", "40123", "01234");
        Check.isTrue("all 25 cells", x.isTrade(0));
        Check.same("all 25 cells", x.tradeSize(0), 25);
        // more than one trade at once
        LatinRectangles two = Texts.filled("rectangle 4 4;", "01..", "10..", "..23", "..32");
        two.saveSnapshot(0);
        Texts.refill(two, "10..", "01..", "..32", "..23");
        Check.isTrue("two trades", two.isTrade(0));
        Check.same("two trades", two.tradeSize(0), 8);
    }

    private static void isNoTrade(String when, String text, String[] there, String[] now) {
        LatinRectangles x = Texts.filled(text, there);
        x.saveSnapshot(1);
        Texts.refill(x, now);
        Check.isFalse(when, x.isTrade(1));
        Check.isTrue(when, x.tradeSize(1) > 0);
    }

    private static void noSuchSlot() {
        Check.sentence("IndexOutOfBoundsException if there is no such slot (checked first) (tradeSize, isTrade)");
        LatinRectangles x = new LatinRectangles();
        for (int round = 0; round < 2; round++) {
            for (int slot : new int[] {-1, 2, 3, Integer.MIN_VALUE, Integer.MAX_VALUE}) {
                Check.throwsBounds("tradeSize(" + slot + ")", () -> x.tradeSize(slot));
                Check.throwsBounds("isTrade(" + slot + ")", () -> x.isTrade(slot) ? 1 : 0);
            }
            x.saveSnapshot(0);
            x.saveSnapshot(1);
        }
    }

    private static void emptySlot() {
        Check.sentence("IllegalStateException if the slot is empty (tradeSize, isTrade)");
        for (int slot = 0; slot < 2; slot++) {
            LatinRectangles x = new LatinRectangles();
            int saved = slot;
            int other = 1 - slot;
            Check.throwsState("tradeSize(" + saved + ")", () -> x.tradeSize(saved));
            Check.throwsState("isTrade(" + saved + ")", () -> x.isTrade(saved) ? 1 : 0);
            x.saveSnapshot(saved);
            Check.same("tradeSize(" + saved + ")", x.tradeSize(saved), 0);
            Check.isFalse("isTrade(" + saved + ")", x.isTrade(saved));
            Check.throwsState("tradeSize(" + other + ")", () -> x.tradeSize(other));
            Check.throwsState("isTrade(" + other + ")", () -> x.isTrade(other) ? 1 : 0);
            Texts.parse(x, "?");
            Check.same("behind a parse with an error", x.tradeSize(saved), 0);
            Texts.parse(x, "rectangle 2 2;");
            Check.throwsState("emptied by a parse", () -> x.tradeSize(saved));
        }
    }
}
