/** The boundary cases of cells and completions and of promises 6 to 16: a method for each sentence that names one. */
public final class EdgesOfCellsTest {
    /** Bans that alone force every cell of a 5 x 5 rectangle. */
    private static final String ALL_FORCED = "rectangle 5 5;ban 0 0 0;ban 0 0 1;ban 0 0 3;ban 0 0 4;ban 0 1 1;ban 0 1 3;ban 0 1 4;"
        + "ban 0 2 1;ban 0 2 4;ban 0 3 4;ban 1 0 1;ban 1 0 3;ban 1 1 1;ban 1 1 2;ban 1 1 3;ban 1 2 1;ban 2 0 3;ban 2 1 2;"
        + "ban 2 1 3;ban 3 0 1;";
    private static final int[] FAR = {Integer.MIN_VALUE, Integer.MIN_VALUE + 1, -6, -1, 6, 25, 1 << 30, Integer.MAX_VALUE};

    public static void main(String[] args) {
        noSuchCell();
        emptyOrFilled();
        givenForGood();
        candidateOfAnEmptyCell();
        filledCellsHaveNoCandidates();
        banForbids();
        onlyCandidate();
        noOtherCellOfTheRow();
        asManyRowsAsColumns();
        firstReasonThatApplies();
        lowestOfSeveralSymbols();
        numberOfForcedCells();
        notSoManyForcedCells();
        whatOfForcedOutOfRange();
        fewestCandidatesFirst();
        notSoManyEmptyCells();
        whatOfEmptyCellOutOfRange();
        usesOfNoSuchSymbol();
        greatestUseFirst();
        notSoManySymbols();
        completionFillsAllEmptyCells();
        atMostALimit();
        limitOutOfRange();
        firstCompletion();
        noCompletion();
        possibleInSomeCompletion();
        Check.end();
    }

    private static void noSuchCell() {
        Check.sentence("IndexOutOfBoundsException if there is no such row or column");
        for (int columns = 2; columns <= 5; columns++) {
            for (int rows = 1; rows <= columns; rows++) {
                LatinRectangles x = Texts.of("rectangle " + rows + " " + columns + ";");
                for (int far : FAR) {
                    refusesCell(x, far, 0);
                    refusesCell(x, 0, far);
                    refusesCell(x, far, far);
                }
                refusesCell(x, rows, 0);
                refusesCell(x, rows, columns - 1);
                refusesCell(x, 0, columns);
                refusesCell(x, rows - 1, columns);
                refusesCell(x, rows, columns);
                answersCell(x, 0, 0);
                answersCell(x, rows - 1, columns - 1);
            }
        }
    }

    private static void refusesCell(LatinRectangles x, int row, int column) {
        String cell = "(" + row + ", " + column + ")";
        Check.throwsBounds("symbol" + cell, () -> x.symbol(row, column));
        Check.throwsBounds("isGiven" + cell, () -> x.isGiven(row, column) ? 1 : 0);
        Check.throwsBounds("candidates" + cell, () -> x.candidates(row, column));
        Check.throwsBounds("completed" + cell, () -> x.completed(row, column));
        Check.throwsBounds("possible" + cell, () -> x.possible(row, column));
        Check.throwsBounds("transversalsThrough" + cell, () -> x.transversalsThrough(row, column));
    }

    private static void answersCell(LatinRectangles x, int row, int column) {
        int all = (1 << x.size(1)) - 1;
        Check.same("symbol", x.symbol(row, column), -1);
        Check.isFalse("isGiven", x.isGiven(row, column));
        Check.same("candidates", x.candidates(row, column), all);
        Check.isTrue("completed", x.completed(row, column) >= 0);
        Check.same("possible", x.possible(row, column), all);
        Check.same("transversalsThrough", x.transversalsThrough(row, column), 0);
    }

    private static void emptyOrFilled() {
        Check.sentence("Returns the symbol; NONE if the cell is empty.");
        LatinRectangles x = Texts.of("rectangle 5 5;given 4 4 4;");
        Check.same("an empty cell", x.symbol(0, 0), -1);
        Check.same("a given cell", x.symbol(4, 4), 4);
        x.fill(0, 0, 0);
        Check.same("the least symbol", x.symbol(0, 0), 0);
        x.empty(0, 0);
        Check.same("an emptied cell", x.symbol(0, 0), -1);
        x.fill(0, 0, 4);
        Check.same("the greatest symbol", x.symbol(0, 0), 4);
    }

    private static void givenForGood() {
        Check.sentence("given fills a cell from the beginning, for good");
        LatinRectangles x = Texts.of("rectangle 2 2;given 1 1 0;");
        Check.isTrue("from the beginning", x.isGiven(1, 1));
        Check.same("from the beginning", x.symbol(1, 1), 0);
        Check.throwsState("empty", () -> x.empty(1, 1));
        Check.throwsState("fill", () -> x.fill(1, 1, 1));
        x.saveSnapshot(0);
        x.propagate();
        x.undo();
        x.undo();
        x.fillRow(0);
        Check.throwsState("switchCycle", () -> x.switchCycle(0, 1, 0));
        x.restoreSnapshot(0);
        x.undo();
        Check.isTrue("still", x.isGiven(1, 1));
        Check.same("still", x.symbol(1, 1), 0);
        Check.isFalse("no other cell", x.isGiven(0, 0));
        LatinRectangles filled = Texts.filled("rectangle 2 2;", "01", "10");
        Check.isFalse("a filled cell is not given", filled.isGiven(1, 1));
        LatinRectangles all = Texts.of("rectangle 1 2;given 0 0 1;given 0 1 0;");
        Check.isTrue("all given", all.isGiven(0, 0) && all.isGiven(0, 1));
    }

    private static void candidateOfAnEmptyCell() {
        Check.sentence("A symbol is a candidate of an empty cell if it is not in its row, not in its column, and not forbidden there.");
        LatinRectangles x = Texts.of("rectangle 5 5;ban 4 4 2;");
        Check.same("all", x.candidates(0, 0), 31);
        Check.same("all but the banned one", x.candidates(4, 4), 27);
        x.fill(4, 0, 0);
        Check.same("not in its row, at its far end", x.candidates(4, 4), 26);
        x.fill(0, 4, 4);
        Check.same("not in its column, at its far end", x.candidates(4, 4), 10);
        x.fill(4, 3, 3);
        x.fill(3, 4, 1);
        Check.same("none is left", x.candidates(4, 4), 0);
        Check.same("nor a forced symbol", x.forcedCells(), 0);
        x.empty(4, 3);
        Check.same("one is back", x.candidates(4, 4), 8);
        // the same symbol in row and column, and banned too: it comes back with the last of them alone
        LatinRectangles both = Texts.of("rectangle 3 3;ban 2 2 0;");
        both.fill(2, 0, 0);
        both.fill(0, 2, 0);
        both.empty(2, 0);
        Check.same("still in the column", both.candidates(2, 2), 6);
        Check.same("still in the column, not banned", both.candidates(1, 2), 6);
        both.empty(0, 2);
        Check.same("still banned", both.candidates(2, 2), 6);
        Check.same("back", both.candidates(1, 2), 7);
    }

    private static void filledCellsHaveNoCandidates() {
        Check.sentence("Filled cells have no candidates. / Returns the candidates of a cell, as bits; 0 for a filled one.");
        LatinRectangles x = Texts.of("rectangle 3 4;given 0 0 0;ban 1 1 3;");
        x.fill(1, 1, 1);
        Check.same("a given cell", x.candidates(0, 0), 0);
        Check.same("a filled cell", x.candidates(1, 1), 0);
        Check.same("an empty one", x.candidates(2, 3), 15);
        x.empty(1, 1);
        Check.same("emptied", x.candidates(1, 1), 7);
        x.fillRow(2);
        for (int column = 0; column < 4; column++) {
            Check.same("a full row", x.candidates(2, column), 0);
        }
    }

    private static void banForbids() {
        Check.sentence("ban forbids a symbol in a cell.");
        LatinRectangles x = Texts.of("rectangle 2 2;ban 1 1 1;ban 1 1 0;");
        Check.same("all are forbidden", x.candidates(1, 1), 0);
        Check.same("not beside it", x.candidates(1, 0), 3);
        Check.throwsState("fill", () -> x.fill(1, 1, 0));
        Check.throwsState("fill", () -> x.fill(1, 1, 1));
        Check.throwsState("fillRow", () -> x.fillRow(1));
        x.saveSnapshot(0);
        x.fill(0, 0, 0);
        x.undo();
        x.restoreSnapshot(0);
        Check.same("for good", x.candidates(1, 1), 0);
        Check.same("it is no error of the rectangle", x.size(5), 1);
    }

    private static void onlyCandidate() {
        Check.sentence("1, the symbol is its only candidate");
        LatinRectangles x = Texts.of("rectangle 1 5;ban 0 4 0;ban 0 4 1;ban 0 4 2;");
        Check.same("two candidates", x.forcedCells(), 0);
        x.fill(0, 0, 4);
        hasForced(x, 0, 0, 4, 3, 1);
        Check.same("one cell", x.forcedCells(), 1);
        x.fill(0, 1, 3);
        // no candidate at (0, 4); 0, 1, 2 in two cells alone
        Check.same("no candidate", x.candidates(0, 4), 0);
        Check.same("not forced", x.forcedCells(), 0);
    }

    private static void noOtherCellOfTheRow() {
        Check.sentence("2, the symbol is a candidate of it and of no other cell of its row");
        // 4 is banned in all cells of row 4 but one
        for (int column = 0; column < 5; column++) {
            StringBuilder text = new StringBuilder("rectangle 5 5;");
            for (int other = 0; other < 5; other++) {
                if (other != column) {
                    text.append("ban 4 ").append(other).append(" 4;");
                }
            }
            LatinRectangles x = Texts.of(text.toString());
            Check.same("one cell", x.forcedCells(), 1);
            hasForced(x, 0, 4, column, 4, 2);
            // in the row already: a candidate of no cell
            x.fill(4, column, 4);
            Check.same("none", x.forcedCells(), 0);
        }
        Check.same("two cells are left for it", Texts.of("rectangle 2 4;ban 0 0 3;ban 0 1 3;").forcedCells(), 0);
    }

    private static void asManyRowsAsColumns() {
        Check.sentence("3, the rectangle has as many rows as columns, and the symbol is a candidate of it and of no other cell of its column");
        for (int columns = 3; columns <= 5; columns++) {
            for (int rows = 2; rows <= columns; rows++) {
                StringBuilder text = new StringBuilder("rectangle " + rows + " " + columns + ";");
                for (int row = 0; row < rows - 1; row++) {
                    text.append("ban ").append(row).append(' ').append(columns - 1).append(" 0;");
                }
                LatinRectangles x = Texts.of(text.toString());
                Check.same(text.toString(), x.forcedCells(), rows == columns ? 1 : 0);
                if (rows == columns) {
                    hasForced(x, 0, rows - 1, columns - 1, 0, 3);
                }
            }
        }
        Check.same("two cells are left for it", Texts.of("rectangle 3 3;ban 0 0 1;").forcedCells(), 0);
        // no row is made up below a rectangle, though its columns leave one symbol each there
        LatinRectangles full = Texts.filled("rectangle 2 3;", "012", "120");
        Check.same("a full rectangle", full.forcedCells(), 0);
        Check.same("forced(0, 0)", full.forced(0, 0), -1);
        Check.same("propagate", full.propagate(), 0);
        Check.same("filled cells", full.size(2), 6);
    }

    private static void firstReasonThatApplies() {
        Check.sentence("An empty cell is forced to a symbol for the first of these reasons that applies");
        // (0, 0) has 2 alone: all three reasons
        hasForced(Texts.of("rectangle 3 3;ban 0 0 0;ban 0 0 1;ban 0 1 2;ban 0 2 2;ban 1 0 2;ban 2 0 2;"), 0, 0, 0, 2, 1);
        // 1 by row and 0 by column: the row goes ahead, though 0 is lower
        hasForced(Texts.of("rectangle 3 3;ban 0 1 1;ban 0 2 1;ban 1 0 0;ban 2 0 0;"), 0, 0, 0, 1, 2);
        hasForced(Texts.of("rectangle 3 3;ban 1 0 0;ban 2 0 0;"), 0, 0, 0, 0, 3);
        // the only candidate goes ahead of a symbol that nothing else has in the row
        hasForced(Texts.of("rectangle 1 2;given 0 1 0;"), 0, 0, 0, 1, 1);
    }

    private static void lowestOfSeveralSymbols() {
        Check.sentence("If reason 2 (or 3) applies to several symbols, the cell is forced to the lowest one.");
        hasForced(Texts.of("rectangle 1 3;ban 0 1 1;ban 0 1 2;ban 0 2 1;ban 0 2 2;"), 0, 0, 0, 1, 2);
        hasForced(Texts.of("rectangle 1 3;ban 0 1 2;ban 0 2 2;ban 0 1 0;ban 0 2 0;"), 0, 0, 0, 0, 2);
        hasForced(Texts.of("rectangle 3 3;ban 1 1 2;ban 2 1 2;ban 1 1 1;ban 2 1 1;"), 0, 0, 1, 1, 3);
        hasForced(Texts.of("rectangle 3 3;ban 1 1 2;ban 2 1 2;ban 1 1 0;ban 2 1 0;"), 0, 0, 1, 0, 3);
    }

    private static void numberOfForcedCells() {
        Check.sentence("Returns the number of forced cells.");
        Check.same("a new object", new LatinRectangles().forcedCells(), 0);
        Check.same("5 x 5", Texts.of("rectangle 5 5;").forcedCells(), 0);
        Check.same("a full one", Texts.filled("rectangle 1 2;", "10").forcedCells(), 0);
        LatinRectangles last = Texts.filled("rectangle 5 5;", "01234", "12340", "23401", "34012");
        Check.same("the last row", last.forcedCells(), 5);
        for (int column = 0; column < 5; column++) {
            hasForced(last, column, 4, column, (column + 4) % 5, 1);
        }
        Check.same("2 x 2 behind the first cell", Texts.filled("rectangle 2 2;", "0.").forcedCells(), 3);
        LatinRectangles all = Texts.of("rectangle 2 2;ban 0 0 1;ban 0 1 0;ban 1 0 0;ban 1 1 1;");
        Check.same("all cells", all.forcedCells(), 4);
        LatinRectangles most = Texts.of(ALL_FORCED);
        Check.same("propagate fills all cells", most.propagate(), 25);
        Texts.hasRow("propagated", most, 0, "20314");
        Texts.hasRow("propagated", most, 1, "04231");
        Texts.hasRow("propagated", most, 2, "41023");
        Texts.hasRow("propagated", most, 3, "32140");
        Texts.hasRow("propagated", most, 4, "13402");
        Check.same("no cell is left", most.forcedCells(), 0);
        Check.same("undo", most.undo(), 0);
        Check.same("filled cells", most.size(2), 0);
    }

    private static void notSoManyForcedCells() {
        Check.sentence("Returns the property; NONE if there are not so many, or k is negative. (forced)");
        LatinRectangles x = Texts.filled("rectangle 2 2;", "0.");
        for (int what = 0; what < 4; what++) {
            Check.isTrue("the first", x.forced(0, what) >= 0);
            Check.isTrue("the last", x.forced(2, what) >= 0);
            for (int k : new int[] {-1, 3, 4, 25, Integer.MIN_VALUE, Integer.MAX_VALUE}) {
                Check.same("forced(" + k + ", " + what + ")", x.forced(k, what), -1);
            }
            Check.same("no forced cell", new LatinRectangles().forced(0, what), -1);
        }
        // in the order of cells, whatever the reasons are
        hasForced(x, 0, 0, 1, 1, 1);
        hasForced(x, 1, 1, 0, 1, 1);
        hasForced(x, 2, 1, 1, 0, 2);
    }

    private static void whatOfForcedOutOfRange() {
        Check.sentence("IllegalArgumentException if what is out of range (forced)");
        LatinRectangles x = Texts.filled("rectangle 2 2;", "0.");
        for (int what : new int[] {-1, 4, Integer.MIN_VALUE, Integer.MAX_VALUE}) {
            for (int k : new int[] {0, 3, -1, Integer.MIN_VALUE}) {
                Check.throwsArgument("forced(" + k + ", " + what + ")", () -> x.forced(k, what));
            }
        }
    }

    private static void hasForced(LatinRectangles x, int k, int... due) {
        for (int what = 0; what < 4; what++) {
            Check.same("forced(" + k + ", " + what + ")", x.forced(k, what), due[what]);
        }
    }

    private static void fewestCandidatesFirst() {
        Check.sentence("ordered by the number of their candidates, the fewest first, then by rows, then by columns");
        LatinRectangles x = Texts.of("rectangle 1 5;ban 0 4 0;ban 0 4 1;ban 0 4 2;ban 0 4 3;ban 0 4 4;ban 0 2 1;ban 0 1 1;");
        hasEmptyCells(x, new int[][] {{0, 4, 0}, {0, 1, 4}, {0, 2, 4}, {0, 0, 5}, {0, 3, 5}});
        LatinRectangles same = new LatinRectangles();
        hasEmptyCells(same, new int[][] {{0, 0, 2}, {0, 1, 2}, {1, 0, 2}, {1, 1, 2}});
        same.fill(0, 1, 0);
        hasEmptyCells(same, new int[][] {{0, 0, 1}, {1, 1, 1}, {1, 0, 2}});
        // a row goes ahead of a column
        hasEmptyCells(Texts.of("rectangle 2 2;ban 0 1 0;ban 1 0 0;"), new int[][] {{0, 1, 1}, {1, 0, 1}, {0, 0, 2}, {1, 1, 2}});
        Check.same("the last of the greatest: row", Texts.of("rectangle 5 5;").emptyCell(24, 0), 4);
        Check.same("the last of the greatest: column", Texts.of("rectangle 5 5;").emptyCell(24, 1), 4);
        Check.same("the last of the greatest: candidates", Texts.of("rectangle 5 5;").emptyCell(24, 2), 5);
    }

    private static void notSoManyEmptyCells() {
        Check.sentence("Returns the property; NONE if there are not so many, or k is negative. (emptyCell)");
        hasEmptyCells(Texts.filled("rectangle 1 2;", "01"), new int[0][]);
        hasEmptyCells(Texts.filled("rectangle 1 2;", "0."), new int[][] {{0, 1, 1}});
        Check.same("25 of 25", Texts.of("rectangle 5 5;").emptyCell(25, 0), -1);
    }

    private static void hasEmptyCells(LatinRectangles x, int[][] due) {
        for (int what = 0; what < 3; what++) {
            for (int k = 0; k < due.length; k++) {
                Check.same("emptyCell(" + k + ", " + what + ")", x.emptyCell(k, what), due[k][what]);
            }
            for (int k : new int[] {-1, due.length, due.length + 1, 25, Integer.MIN_VALUE, Integer.MAX_VALUE}) {
                Check.same("emptyCell(" + k + ", " + what + ")", x.emptyCell(k, what), -1);
            }
        }
    }

    private static void whatOfEmptyCellOutOfRange() {
        Check.sentence("IllegalArgumentException if what is out of range (emptyCell)");
        LatinRectangles x = new LatinRectangles();
        for (int what : new int[] {-1, 3, Integer.MIN_VALUE, Integer.MAX_VALUE}) {
            for (int k : new int[] {0, 4, -1, Integer.MIN_VALUE}) {
                Check.throwsArgument("emptyCell(" + k + ", " + what + ")", () -> x.emptyCell(k, what));
            }
        }
    }

    private static void usesOfNoSuchSymbol() {
        Check.sentence("Returns the number; 0 if there is no such symbol.");
        LatinRectangles x = Texts.filled("rectangle 2 3;given 0 2 2;", "012", ".0.");
        int[] due = {2, 1, 1};
        for (int symbol = 0; symbol < 3; symbol++) {
            Check.same("uses(" + symbol + ")", x.uses(symbol), due[symbol]);
        }
        for (int symbol : new int[] {-2, -1, 3, 4, 5, 32, 33, 34, Integer.MIN_VALUE, Integer.MAX_VALUE}) {
            Check.same("uses(" + symbol + ")", x.uses(symbol), 0);
        }
        LatinRectangles full = Texts.filled("rectangle 5 5;", "01234", "12340", "23401", "34012", "40123");
        for (int symbol = 0; symbol < 5; symbol++) {
            Check.same("a full one: uses(" + symbol + ")", full.uses(symbol), 5);
        }
        Check.same("an empty one", new LatinRectangles().uses(0), 0);
        Check.same("an empty one", new LatinRectangles().uses(-1), 0);
    }

    private static void greatestUseFirst() {
        Check.sentence("the greatest first, those with the same number by number");
        hasUse(new LatinRectangles(), 0, 1);
        hasUse(Texts.of("rectangle 1 5;given 0 0 4;"), 4, 0, 1, 2, 3);
        hasUse(Texts.filled("rectangle 5 5;", "01234", "12340", "23401", "34012", "40123"), 0, 1, 2, 3, 4);
        hasUse(Texts.filled("rectangle 5 5;", "43...", ".4...", "..4..", "...4.", "2..34"), 4, 3, 2, 0, 1);
    }

    private static void notSoManySymbols() {
        Check.sentence("Returns the symbol; NONE if there are not so many, or k is negative.");
        for (int columns = 2; columns <= 5; columns++) {
            LatinRectangles x = Texts.of("rectangle 1 " + columns + ";");
            Check.same("the last", x.symbolByUse(columns - 1), columns - 1);
            for (int k : new int[] {-1, columns, 5, Integer.MIN_VALUE, Integer.MAX_VALUE}) {
                Check.same("symbolByUse(" + k + ")", x.symbolByUse(k), -1);
            }
        }
    }

    private static void hasUse(LatinRectangles x, int... due) {
        for (int k = 0; k < due.length; k++) {
            Check.same("symbolByUse(" + k + ")", x.symbolByUse(k), due[k]);
        }
    }

    private static void completionFillsAllEmptyCells() {
        Check.sentence("A completion fills all empty cells so that no symbol is twice in a row or a column, and none is forbidden"
            + " where it is; what is filled stays.");
        int[][] due = {{2, 6, 24, 120}, {2, 12, 216, 1000}, {0, 12, 576, 1000}, {0, 0, 576, 1000}, {0, 0, 0, 1000}};
        for (int columns = 2; columns <= 5; columns++) {
            for (int rows = 1; rows <= columns; rows++) {
                LatinRectangles x = Texts.of("rectangle " + rows + " " + columns + ";");
                Check.same(rows + " x " + columns, x.completions(1000), due[rows - 1][columns - 2]);
            }
        }
        Check.same("a full one", Texts.filled("rectangle 2 2;", "10", "01").completions(1000), 1);
        Check.same("one cell left", Texts.filled("rectangle 2 2;", "10", "0.").completions(1000), 1);
        Check.same("a dead cell", Texts.of("rectangle 2 2;ban 1 1 0;ban 1 1 1;").completions(1000), 0);
        Check.same("the last cell clashes", Texts.filled("rectangle 2 2;", "1.", ".0").completions(1000), 0);
        Check.same("one by bans", Texts.of("rectangle 2 2;ban 0 0 0;").completions(1000), 1);
        Check.same("none by bans", Texts.of("rectangle 2 2;ban 0 0 0;ban 1 1 0;ban 0 1 0;").completions(1000), 0);
        Check.same("what is filled stays, though it leaves none",
            Texts.filled("rectangle 1 3;ban 0 1 1;ban 0 2 1;", "0..").completions(1000), 0);
    }

    private static void atMostALimit() {
        Check.sentence("Returns the number of completions, but at most a limit.");
        LatinRectangles x = Texts.of("rectangle 3 3;");
        for (int limit = 1; limit <= 14; limit++) {
            Check.same("completions(" + limit + ")", x.completions(limit), Math.min(limit, 12));
        }
        LatinRectangles most = Texts.of("rectangle 5 5;");
        for (int limit : new int[] {1, 2, 999, 1000}) {
            Check.same("completions(" + limit + ")", most.completions(limit), limit);
        }
        LatinRectangles none = Texts.of("rectangle 1 2;ban 0 0 0;ban 0 0 1;");
        Check.same("none: completions(1)", none.completions(1), 0);
        Check.same("none: completions(1000)", none.completions(1000), 0);
    }

    private static void limitOutOfRange() {
        Check.sentence("IllegalArgumentException if limit is out of range");
        LatinRectangles x = new LatinRectangles();
        for (int limit : new int[] {0, -1, 1001, Integer.MIN_VALUE, Integer.MAX_VALUE}) {
            Check.throwsArgument("completions(" + limit + ")", () -> x.completions(limit));
        }
        Check.same("completions(1)", x.completions(1), 1);
        Check.same("completions(1000)", x.completions(1000), 2);
    }

    private static void firstCompletion() {
        Check.sentence("Completions are ordered by the symbol of the first empty cell, then by that of the second one, and so on.");
        hasCompleted(Texts.of("rectangle 1 2;"), "01");
        hasCompleted(Texts.of("rectangle 5 5;"), "01234", "10342", "23401", "34120", "42013");
        hasCompleted(Texts.filled("rectangle 2 2;", "10", "01"), "10", "01");
        hasCompleted(Texts.filled("rectangle 2 3;", "21.", "1.."), "210", "102");
        // 0 in the first cell leaves the last row no place for 0 and 1
        hasCompleted(Texts.of("rectangle 3 3;ban 2 1 0;ban 2 2 0;"), "102", "210", "021");
        hasCompleted(Texts.filled("rectangle 5 5;", ".....", ".....", ".....", ".....", "40123"),
            "01234", "12340", "23401", "34012", "40123");
    }

    private static void noCompletion() {
        Check.sentence("Returns the symbol; NONE if there is no completion.");
        LatinRectangles x = Texts.filled("rectangle 2 2;", "1.", ".0");
        for (int row = 0; row < 2; row++) {
            for (int column = 0; column < 2; column++) {
                Check.same("completed(" + row + ", " + column + ")", x.completed(row, column), -1);
                Check.same("possible(" + row + ", " + column + ")", x.possible(row, column), 0);
            }
        }
        x.undo();
        Check.same("one again", x.completed(1, 1), 1);
    }

    private static void hasCompleted(LatinRectangles x, String... rows) {
        for (int row = 0; row < rows.length; row++) {
            for (int column = 0; column < rows[row].length(); column++) {
                Check.same("completed(" + row + ", " + column + ")", x.completed(row, column), rows[row].charAt(column) - '0');
            }
        }
    }

    private static void possibleInSomeCompletion() {
        Check.sentence("Returns the symbols that a cell has in some completion, as bits.");
        LatinRectangles all = Texts.of("rectangle 5 5;");
        Check.same("all in the first cell", all.possible(0, 0), 31);
        Check.same("all in the last cell", all.possible(4, 4), 31);
        LatinRectangles full = Texts.filled("rectangle 2 2;", "10", "01");
        Check.same("a full one", full.possible(0, 0), 2);
        Check.same("a full one", full.possible(0, 1), 1);
        LatinRectangles given = Texts.of("rectangle 2 3;given 1 2 2;");
        Check.same("a given cell", given.possible(1, 2), 4);
        Check.same("its column", given.possible(0, 2), 3);
        // a candidate that no completion has
        LatinRectangles x = Texts.of("rectangle 2 2;ban 0 0 0;");
        Check.same("a candidate", x.candidates(1, 1), 3);
        Check.same("in no completion", x.possible(1, 1), 2);
        LatinRectangles none = Texts.of("rectangle 1 2;given 0 0 0;ban 0 1 1;");
        Check.same("no completion, an empty cell", none.possible(0, 1), 0);
        Check.same("no completion, a filled cell", none.possible(0, 0), 0);
    }
}
